abbrev b_M_layOut : ByteArray := prog_9_method_33_code
def y_M_layOut : MethodName := ⟨"BodySolidsModel", "layOut", "(I)V"⟩
theorem d_M_layOut_0 : decode b_M_layOut 0 = .ok (.bipush 6, 2) := by decide +kernel
theorem d_M_layOut_2 : decode b_M_layOut 2 = .ok (.iload_n 1, 1) := by decide +kernel
theorem d_M_layOut_3 : decode b_M_layOut 3 = .ok (.imul, 1) := by decide +kernel
theorem d_M_layOut_4 : decode b_M_layOut 4 = .ok (.istore_n 2, 1) := by decide +kernel
theorem d_M_layOut_5 : decode b_M_layOut 5 = .ok (.aload_n 0, 1) := by decide +kernel
theorem d_M_layOut_6 : decode b_M_layOut 6 = .ok (.getfield 53, 3) := by decide +kernel
theorem d_M_layOut_9 : decode b_M_layOut 9 = .ok (.iconst 1, 1) := by decide +kernel
theorem d_M_layOut_10 : decode b_M_layOut 10 = .ok (.iconst 2, 1) := by decide +kernel
theorem d_M_layOut_11 : decode b_M_layOut 11 = .ok (.iastore, 1) := by decide +kernel
theorem d_M_layOut_12 : decode b_M_layOut 12 = .ok (.aload_n 0, 1) := by decide +kernel
theorem d_M_layOut_13 : decode b_M_layOut 13 = .ok (.getfield 56, 3) := by decide +kernel
theorem d_M_layOut_16 : decode b_M_layOut 16 = .ok (.iconst 1, 1) := by decide +kernel
theorem d_M_layOut_17 : decode b_M_layOut 17 = .ok (.iconst 4, 1) := by decide +kernel
theorem d_M_layOut_18 : decode b_M_layOut 18 = .ok (.iastore, 1) := by decide +kernel
theorem d_M_layOut_19 : decode b_M_layOut 19 = .ok (.aload_n 0, 1) := by decide +kernel
theorem d_M_layOut_20 : decode b_M_layOut 20 = .ok (.iconst 1, 1) := by decide +kernel
theorem d_M_layOut_21 : decode b_M_layOut 21 = .ok (.iconst 0, 1) := by decide +kernel
theorem d_M_layOut_22 : decode b_M_layOut 22 = .ok (.aload_n 0, 1) := by decide +kernel
theorem d_M_layOut_23 : decode b_M_layOut 23 = .ok (.getfield 50, 3) := by decide +kernel
theorem d_M_layOut_26 : decode b_M_layOut 26 = .ok (.iload_n 2, 1) := by decide +kernel
theorem d_M_layOut_27 : decode b_M_layOut 27 = .ok (.laload, 1) := by decide +kernel
theorem d_M_layOut_28 : decode b_M_layOut 28 = .ok (.aload_n 0, 1) := by decide +kernel
theorem d_M_layOut_29 : decode b_M_layOut 29 = .ok (.getfield 50, 3) := by decide +kernel
theorem d_M_layOut_32 : decode b_M_layOut 32 = .ok (.iload_n 2, 1) := by decide +kernel
theorem d_M_layOut_33 : decode b_M_layOut 33 = .ok (.iconst 1, 1) := by decide +kernel
theorem d_M_layOut_34 : decode b_M_layOut 34 = .ok (.iadd, 1) := by decide +kernel
theorem d_M_layOut_35 : decode b_M_layOut 35 = .ok (.laload, 1) := by decide +kernel
theorem d_M_layOut_36 : decode b_M_layOut 36 = .ok (.invokevirtual 160, 3) := by decide +kernel
theorem d_M_layOut_39 : decode b_M_layOut 39 = .ok (.aload_n 0, 1) := by decide +kernel
theorem d_M_layOut_40 : decode b_M_layOut 40 = .ok (.iconst 1, 1) := by decide +kernel
theorem d_M_layOut_41 : decode b_M_layOut 41 = .ok (.iconst 1, 1) := by decide +kernel
theorem d_M_layOut_42 : decode b_M_layOut 42 = .ok (.aload_n 0, 1) := by decide +kernel
theorem d_M_layOut_43 : decode b_M_layOut 43 = .ok (.getfield 50, 3) := by decide +kernel
theorem d_M_layOut_46 : decode b_M_layOut 46 = .ok (.iload_n 2, 1) := by decide +kernel
theorem d_M_layOut_47 : decode b_M_layOut 47 = .ok (.iconst 2, 1) := by decide +kernel
theorem d_M_layOut_48 : decode b_M_layOut 48 = .ok (.iadd, 1) := by decide +kernel
theorem d_M_layOut_49 : decode b_M_layOut 49 = .ok (.laload, 1) := by decide +kernel
theorem d_M_layOut_50 : decode b_M_layOut 50 = .ok (.aload_n 0, 1) := by decide +kernel
theorem d_M_layOut_51 : decode b_M_layOut 51 = .ok (.getfield 50, 3) := by decide +kernel
theorem d_M_layOut_54 : decode b_M_layOut 54 = .ok (.iload_n 2, 1) := by decide +kernel
theorem d_M_layOut_55 : decode b_M_layOut 55 = .ok (.iconst 1, 1) := by decide +kernel
theorem d_M_layOut_56 : decode b_M_layOut 56 = .ok (.iadd, 1) := by decide +kernel
theorem d_M_layOut_57 : decode b_M_layOut 57 = .ok (.laload, 1) := by decide +kernel
theorem d_M_layOut_58 : decode b_M_layOut 58 = .ok (.invokevirtual 160, 3) := by decide +kernel
theorem d_M_layOut_61 : decode b_M_layOut 61 = .ok (.aload_n 0, 1) := by decide +kernel
theorem d_M_layOut_62 : decode b_M_layOut 62 = .ok (.iconst 1, 1) := by decide +kernel
theorem d_M_layOut_63 : decode b_M_layOut 63 = .ok (.iconst 2, 1) := by decide +kernel
theorem d_M_layOut_64 : decode b_M_layOut 64 = .ok (.aload_n 0, 1) := by decide +kernel
theorem d_M_layOut_65 : decode b_M_layOut 65 = .ok (.getfield 50, 3) := by decide +kernel
theorem d_M_layOut_68 : decode b_M_layOut 68 = .ok (.iload_n 2, 1) := by decide +kernel
theorem d_M_layOut_69 : decode b_M_layOut 69 = .ok (.iconst 2, 1) := by decide +kernel
theorem d_M_layOut_70 : decode b_M_layOut 70 = .ok (.iadd, 1) := by decide +kernel
theorem d_M_layOut_71 : decode b_M_layOut 71 = .ok (.laload, 1) := by decide +kernel
theorem d_M_layOut_72 : decode b_M_layOut 72 = .ok (.aload_n 0, 1) := by decide +kernel
theorem d_M_layOut_73 : decode b_M_layOut 73 = .ok (.getfield 50, 3) := by decide +kernel
theorem d_M_layOut_76 : decode b_M_layOut 76 = .ok (.iload_n 2, 1) := by decide +kernel
theorem d_M_layOut_77 : decode b_M_layOut 77 = .ok (.iconst 3, 1) := by decide +kernel
theorem d_M_layOut_78 : decode b_M_layOut 78 = .ok (.iadd, 1) := by decide +kernel
theorem d_M_layOut_79 : decode b_M_layOut 79 = .ok (.laload, 1) := by decide +kernel
theorem d_M_layOut_80 : decode b_M_layOut 80 = .ok (.invokevirtual 160, 3) := by decide +kernel
theorem d_M_layOut_83 : decode b_M_layOut 83 = .ok (.aload_n 0, 1) := by decide +kernel
theorem d_M_layOut_84 : decode b_M_layOut 84 = .ok (.iconst 1, 1) := by decide +kernel
theorem d_M_layOut_85 : decode b_M_layOut 85 = .ok (.iconst 3, 1) := by decide +kernel
theorem d_M_layOut_86 : decode b_M_layOut 86 = .ok (.aload_n 0, 1) := by decide +kernel
theorem d_M_layOut_87 : decode b_M_layOut 87 = .ok (.getfield 50, 3) := by decide +kernel
theorem d_M_layOut_90 : decode b_M_layOut 90 = .ok (.iload_n 2, 1) := by decide +kernel
theorem d_M_layOut_91 : decode b_M_layOut 91 = .ok (.laload, 1) := by decide +kernel
theorem d_M_layOut_92 : decode b_M_layOut 92 = .ok (.aload_n 0, 1) := by decide +kernel
theorem d_M_layOut_93 : decode b_M_layOut 93 = .ok (.getfield 50, 3) := by decide +kernel
theorem d_M_layOut_96 : decode b_M_layOut 96 = .ok (.iload_n 2, 1) := by decide +kernel
theorem d_M_layOut_97 : decode b_M_layOut 97 = .ok (.iconst 3, 1) := by decide +kernel
theorem d_M_layOut_98 : decode b_M_layOut 98 = .ok (.iadd, 1) := by decide +kernel
theorem d_M_layOut_99 : decode b_M_layOut 99 = .ok (.laload, 1) := by decide +kernel
theorem d_M_layOut_100 : decode b_M_layOut 100 = .ok (.invokevirtual 160, 3) := by decide +kernel
theorem d_M_layOut_103 : decode b_M_layOut 103 = .ok (.aload_n 0, 1) := by decide +kernel
theorem d_M_layOut_104 : decode b_M_layOut 104 = .ok (.getfield 50, 3) := by decide +kernel
theorem d_M_layOut_107 : decode b_M_layOut 107 = .ok (.iload_n 2, 1) := by decide +kernel
theorem d_M_layOut_108 : decode b_M_layOut 108 = .ok (.iconst 4, 1) := by decide +kernel
theorem d_M_layOut_109 : decode b_M_layOut 109 = .ok (.iadd, 1) := by decide +kernel
theorem d_M_layOut_110 : decode b_M_layOut 110 = .ok (.laload, 1) := by decide +kernel
theorem d_M_layOut_111 : decode b_M_layOut 111 = .ok (.lconst 0, 1) := by decide +kernel
theorem d_M_layOut_112 : decode b_M_layOut 112 = .ok (.lcmp, 1) := by decide +kernel
theorem d_M_layOut_113 : decode b_M_layOut 113 = .ok (.ifCond .ne 22, 3) := by decide +kernel
theorem d_M_layOut_116 : decode b_M_layOut 116 = .ok (.aload_n 0, 1) := by decide +kernel
theorem d_M_layOut_117 : decode b_M_layOut 117 = .ok (.iconst 1, 1) := by decide +kernel
theorem d_M_layOut_118 : decode b_M_layOut 118 = .ok (.aload_n 0, 1) := by decide +kernel
theorem d_M_layOut_119 : decode b_M_layOut 119 = .ok (.getfield 50, 3) := by decide +kernel
theorem d_M_layOut_122 : decode b_M_layOut 122 = .ok (.iload_n 2, 1) := by decide +kernel
theorem d_M_layOut_123 : decode b_M_layOut 123 = .ok (.iconst 5, 1) := by decide +kernel
theorem d_M_layOut_124 : decode b_M_layOut 124 = .ok (.iadd, 1) := by decide +kernel
theorem d_M_layOut_125 : decode b_M_layOut 125 = .ok (.laload, 1) := by decide +kernel
theorem d_M_layOut_126 : decode b_M_layOut 126 = .ok (.ldc2_w 182, 3) := by decide +kernel
theorem d_M_layOut_129 : decode b_M_layOut 129 = .ok (.invokevirtual 178, 3) := by decide +kernel
theorem d_M_layOut_132 : decode b_M_layOut 132 = .ok (.goto 26, 3) := by decide +kernel
theorem d_M_layOut_135 : decode b_M_layOut 135 = .ok (.aload_n 0, 1) := by decide +kernel
theorem d_M_layOut_136 : decode b_M_layOut 136 = .ok (.iconst 1, 1) := by decide +kernel
theorem d_M_layOut_137 : decode b_M_layOut 137 = .ok (.lconst 0, 1) := by decide +kernel
theorem d_M_layOut_138 : decode b_M_layOut 138 = .ok (.aload_n 0, 1) := by decide +kernel
theorem d_M_layOut_139 : decode b_M_layOut 139 = .ok (.getfield 76, 3) := by decide +kernel
theorem d_M_layOut_142 : decode b_M_layOut 142 = .ok (.lsub, 1) := by decide +kernel
theorem d_M_layOut_143 : decode b_M_layOut 143 = .ok (.aload_n 0, 1) := by decide +kernel
theorem d_M_layOut_144 : decode b_M_layOut 144 = .ok (.getfield 50, 3) := by decide +kernel
theorem d_M_layOut_147 : decode b_M_layOut 147 = .ok (.iload_n 2, 1) := by decide +kernel
theorem d_M_layOut_148 : decode b_M_layOut 148 = .ok (.iconst 5, 1) := by decide +kernel
theorem d_M_layOut_149 : decode b_M_layOut 149 = .ok (.iadd, 1) := by decide +kernel
theorem d_M_layOut_150 : decode b_M_layOut 150 = .ok (.laload, 1) := by decide +kernel
theorem d_M_layOut_151 : decode b_M_layOut 151 = .ok (.lsub, 1) := by decide +kernel
theorem d_M_layOut_152 : decode b_M_layOut 152 = .ok (.ldc2_w 184, 3) := by decide +kernel
theorem d_M_layOut_155 : decode b_M_layOut 155 = .ok (.invokevirtual 178, 3) := by decide +kernel
theorem d_M_layOut_158 : decode b_M_layOut 158 = .ok (.return_, 1) := by decide +kernel
abbrev rm_M_layOut : Room := { frames := 1, cells := 0, slots := 0, locals := 26 }
theorem ce_M_layOut : gCe y_M_layOut (.code y_M_layOut b_M_layOut 3 none) 3 1 false := gCe.code wd_1095 wd_57 wd_1094 (by decide) (by decide +kernel)
def f_M_layOut (g0 : gG) (a0 : Nat) (p1 : Int32) (w : gW) : gX Unit := (gfA w a0 7 20).bind fun v1 => (gsI w v1 1 2).bind fun w => (gfA w a0 7 21).bind fun v4 => (gsI w v4 1 4).bind fun w => (gfA w a0 7 19).bind fun v7 => (gaJ w v7 (6 * p1)).bind fun v9 => (gfA w a0 7 19).bind fun v11 => (gaJ w v11 ((6 * p1) + 1)).bind fun v13 => (gck w a0 7).bind fun _ => gbind (f_M_point g0 a0 1 0 v9 v13 w) fun v19 w => (gfA w a0 7 19).bind fun v20 => (gaJ w v20 ((6 * p1) + 2)).bind fun v22 => (gfA w a0 7 19).bind fun v24 => (gaJ w v24 ((6 * p1) + 1)).bind fun v26 => (gck w a0 7).bind fun _ => gbind (f_M_point g0 a0 1 1 v22 v26 w) fun v32 w => (gfA w a0 7 19).bind fun v33 => (gaJ w v33 ((6 * p1) + 2)).bind fun v35 => (gfA w a0 7 19).bind fun v37 => (gaJ w v37 ((6 * p1) + 3)).bind fun v39 => (gck w a0 7).bind fun _ => gbind (f_M_point g0 a0 1 2 v35 v39 w) fun v45 w => (gfA w a0 7 19).bind fun v46 => (gaJ w v46 (6 * p1)).bind fun v48 => (gfA w a0 7 19).bind fun v50 => (gaJ w v50 ((6 * p1) + 3)).bind fun v52 => (gck w a0 7).bind fun _ => gbind (f_M_point g0 a0 1 3 v48 v52 w) fun v58 w => (gfA w a0 7 19).bind fun v59 => (gaJ w v59 ((6 * p1) + 4)).bind fun v61 => gjoin (fun K158 => if v61 = 0 then ((gfA w a0 7 19).bind fun v75 => (gaJ w v75 ((6 * p1) + 5)).bind fun v77 => (gck w a0 7).bind fun _ => gbind (f_M_heights g0 a0 1 v77 100000 w) fun v83 w => K158 w) else ((gfJ w a0 7 1).bind fun v64 => (gfA w a0 7 19).bind fun v66 => (gaJ w v66 ((6 * p1) + 5)).bind fun v68 => (gck w a0 7).bind fun _ => gbind (f_M_heights g0 a0 1 ((0 - v64) - v68) (-100000) w) fun v74 w => K158 w)) (fun (w : gW) => some (.inr (), w))
set_option maxHeartbeats 4000000 in
set_option maxRecDepth 100000 in
theorem m_M_layOut (l : Launch) (hst : l.stackTraces = false) (D : gD) (g0 : gG) (a0 : Nat) (p1 : Int32) (w : gW) (r : (String ⊕ Unit) × gW) (h : f_M_layOut g0 a0 p1 w = some r) : gMet l y_M_layOut (.code y_M_layOut b_M_layOut 3 none) rm_M_layOut D g0 [.ref a0, .int p1] w (goV r) := by
  refine gw_ofV (by decide +kernel) (Nat.le_of_ble_eq_true rfl) ?_
  intro p e s m below meth c ls args A Q hx hb hml hown hlocks hin hnt hT hK hZ hA hret hexc hthr hI hl
  obtain ⟨H, hH⟩ : ∃ H, H = s.heap := ⟨_, rfl⟩
  rw [← hH] at hI ⊢
  obtain ⟨locs, hlocs⟩ : ∃ z : List Loc, z = [] := ⟨_, rfl⟩
  rw [← hlocs] at hI ⊢
  have hl : lv_has ls 3 [(0, .ref a0), (1, .int p1)] := hl
  unfold f_M_layOut at h
  refine lv_bipush (v := 6) hx hb d_M_layOut_0 (by decide) ?_
  refine lv_iload_n hx hb d_M_layOut_2 rfl (lv_at hl 1 rfl) ?_
  refine lv_imul hx hb d_M_layOut_3 ?_
  refine lv_istore_n (lv' := [(2, .int (6 * p1)), (0, .ref a0), (1, .int p1)]) hx hb d_M_layOut_4 rfl hl (by decide) rfl (fun ls hl => ?_)
  refine lv_aload_n hx hb d_M_layOut_5 rfl (lv_at hl 1 rfl) ?_
  obtain ⟨v1, e2, h⟩ := gb h
  refine gw_getA hx hb hT hown hK hI (ci := 7) rfl i_7 20 (by decide) wd_806 (fun _ h9 => h9) e2 d_M_layOut_6 ?_
  refine lv_iconst (v := 1) hx hb d_M_layOut_9 (by decide) ?_
  refine lv_iconst (v := 2) hx hb d_M_layOut_10 (by decide) ?_
  obtain ⟨w, e3, h⟩ := gb h
  refine gw_astI hx hb hK hI e3 d_M_layOut_11 (fun H locs hI => ?_)
  refine lv_aload_n hx hb d_M_layOut_12 rfl (lv_at hl 1 rfl) ?_
  obtain ⟨v4, e5, h⟩ := gb h
  refine gw_getA hx hb hT hown hK hI (ci := 7) rfl i_7 21 (by decide) wd_807 (fun _ h9 => h9) e5 d_M_layOut_13 ?_
  refine lv_iconst (v := 1) hx hb d_M_layOut_16 (by decide) ?_
  refine lv_iconst (v := 4) hx hb d_M_layOut_17 (by decide) ?_
  obtain ⟨w, e6, h⟩ := gb h
  refine gw_astI hx hb hK hI e6 d_M_layOut_18 (fun H locs hI => ?_)
  refine lv_aload_n hx hb d_M_layOut_19 rfl (lv_at hl 1 rfl) ?_
  refine lv_iconst (v := 1) hx hb d_M_layOut_20 (by decide) ?_
  refine lv_iconst (v := 0) hx hb d_M_layOut_21 (by decide) ?_
  refine lv_aload_n hx hb d_M_layOut_22 rfl (lv_at hl 1 rfl) ?_
  obtain ⟨v7, e8, h⟩ := gb h
  refine gw_getA hx hb hT hown hK hI (ci := 7) rfl i_7 19 (by decide) wd_805 (fun _ h9 => h9) e8 d_M_layOut_23 ?_
  refine lv_iload_n hx hb d_M_layOut_26 rfl (lv_at hl 0 rfl) ?_
  obtain ⟨v9, e10, h⟩ := gb h
  refine gw_aldJ hx hb hK hI e10 d_M_layOut_27 ?_
  refine lv_aload_n hx hb d_M_layOut_28 rfl (lv_at hl 1 rfl) ?_
  obtain ⟨v11, e12, h⟩ := gb h
  refine gw_getA hx hb hT hown hK hI (ci := 7) rfl i_7 19 (by decide) wd_805 (fun _ h9 => h9) e12 d_M_layOut_29 ?_
  refine lv_iload_n hx hb d_M_layOut_32 rfl (lv_at hl 0 rfl) ?_
  refine lv_iconst (v := 1) hx hb d_M_layOut_33 (by decide) ?_
  refine lv_iadd hx hb d_M_layOut_34 ?_
  obtain ⟨v13, e14, h⟩ := gb h
  refine gw_aldJ hx hb hK hI e14 d_M_layOut_35 ?_
  obtain ⟨q17, e18, h⟩ := gb h
  obtain ⟨u15, e16⟩ := gsome h
  refine gw_callV e16 h (gw_runV (As := [.int 1, .int 0, .long v9, .long v13]) (rest := []) hx hb hml hown hT hK hZ hA hI (ci := 7) rfl e18 (m_M_point l hst D g0 a0 1 0 v9 v13 w u15 e16) ce_M_point wd_987 wd_30 ⟨by decide, by decide⟩ rfl rfl hl.1 rfl (lv_room (Nat.le_of_ble_eq_true rfl)) d_M_layOut_36 ⟨(show 0 + 0 ≤ 0 by omega), (show 0 + 0 ≤ 0 by omega)⟩) hI hA hexc (show 0 + 0 ≤ 0 by omega) (show 0 + 0 ≤ 0 by omega) (fun v19 w H locs h hI => ?_)
  refine lv_aload_n hx hb d_M_layOut_39 rfl (lv_at hl 1 rfl) ?_
  refine lv_iconst (v := 1) hx hb d_M_layOut_40 (by decide) ?_
  refine lv_iconst (v := 1) hx hb d_M_layOut_41 (by decide) ?_
  refine lv_aload_n hx hb d_M_layOut_42 rfl (lv_at hl 1 rfl) ?_
  obtain ⟨v20, e21, h⟩ := gb h
  refine gw_getA hx hb hT hown hK hI (ci := 7) rfl i_7 19 (by decide) wd_805 (fun _ h9 => h9) e21 d_M_layOut_43 ?_
  refine lv_iload_n hx hb d_M_layOut_46 rfl (lv_at hl 0 rfl) ?_
  refine lv_iconst (v := 2) hx hb d_M_layOut_47 (by decide) ?_
  refine lv_iadd hx hb d_M_layOut_48 ?_
  obtain ⟨v22, e23, h⟩ := gb h
  refine gw_aldJ hx hb hK hI e23 d_M_layOut_49 ?_
  refine lv_aload_n hx hb d_M_layOut_50 rfl (lv_at hl 1 rfl) ?_
  obtain ⟨v24, e25, h⟩ := gb h
  refine gw_getA hx hb hT hown hK hI (ci := 7) rfl i_7 19 (by decide) wd_805 (fun _ h9 => h9) e25 d_M_layOut_51 ?_
  refine lv_iload_n hx hb d_M_layOut_54 rfl (lv_at hl 0 rfl) ?_
  refine lv_iconst (v := 1) hx hb d_M_layOut_55 (by decide) ?_
  refine lv_iadd hx hb d_M_layOut_56 ?_
  obtain ⟨v26, e27, h⟩ := gb h
  refine gw_aldJ hx hb hK hI e27 d_M_layOut_57 ?_
  obtain ⟨q30, e31, h⟩ := gb h
  obtain ⟨u28, e29⟩ := gsome h
  refine gw_callV e29 h (gw_runV (As := [.int 1, .int 1, .long v22, .long v26]) (rest := []) hx hb hml hown hT hK hZ hA hI (ci := 7) rfl e31 (m_M_point l hst D g0 a0 1 1 v22 v26 w u28 e29) ce_M_point wd_987 wd_30 ⟨by decide, by decide⟩ rfl rfl hl.1 rfl (lv_room (Nat.le_of_ble_eq_true rfl)) d_M_layOut_58 ⟨(show 0 + 0 ≤ 0 by omega), (show 0 + 0 ≤ 0 by omega)⟩) hI hA hexc (show 0 + 0 ≤ 0 by omega) (show 0 + 0 ≤ 0 by omega) (fun v32 w H locs h hI => ?_)
  refine lv_aload_n hx hb d_M_layOut_61 rfl (lv_at hl 1 rfl) ?_
  refine lv_iconst (v := 1) hx hb d_M_layOut_62 (by decide) ?_
  refine lv_iconst (v := 2) hx hb d_M_layOut_63 (by decide) ?_
  refine lv_aload_n hx hb d_M_layOut_64 rfl (lv_at hl 1 rfl) ?_
  obtain ⟨v33, e34, h⟩ := gb h
  refine gw_getA hx hb hT hown hK hI (ci := 7) rfl i_7 19 (by decide) wd_805 (fun _ h9 => h9) e34 d_M_layOut_65 ?_
  refine lv_iload_n hx hb d_M_layOut_68 rfl (lv_at hl 0 rfl) ?_
  refine lv_iconst (v := 2) hx hb d_M_layOut_69 (by decide) ?_
  refine lv_iadd hx hb d_M_layOut_70 ?_
  obtain ⟨v35, e36, h⟩ := gb h
  refine gw_aldJ hx hb hK hI e36 d_M_layOut_71 ?_
  refine lv_aload_n hx hb d_M_layOut_72 rfl (lv_at hl 1 rfl) ?_
  obtain ⟨v37, e38, h⟩ := gb h
  refine gw_getA hx hb hT hown hK hI (ci := 7) rfl i_7 19 (by decide) wd_805 (fun _ h9 => h9) e38 d_M_layOut_73 ?_
  refine lv_iload_n hx hb d_M_layOut_76 rfl (lv_at hl 0 rfl) ?_
  refine lv_iconst (v := 3) hx hb d_M_layOut_77 (by decide) ?_
  refine lv_iadd hx hb d_M_layOut_78 ?_
  obtain ⟨v39, e40, h⟩ := gb h
  refine gw_aldJ hx hb hK hI e40 d_M_layOut_79 ?_
  obtain ⟨q43, e44, h⟩ := gb h
  obtain ⟨u41, e42⟩ := gsome h
  refine gw_callV e42 h (gw_runV (As := [.int 1, .int 2, .long v35, .long v39]) (rest := []) hx hb hml hown hT hK hZ hA hI (ci := 7) rfl e44 (m_M_point l hst D g0 a0 1 2 v35 v39 w u41 e42) ce_M_point wd_987 wd_30 ⟨by decide, by decide⟩ rfl rfl hl.1 rfl (lv_room (Nat.le_of_ble_eq_true rfl)) d_M_layOut_80 ⟨(show 0 + 0 ≤ 0 by omega), (show 0 + 0 ≤ 0 by omega)⟩) hI hA hexc (show 0 + 0 ≤ 0 by omega) (show 0 + 0 ≤ 0 by omega) (fun v45 w H locs h hI => ?_)
  refine lv_aload_n hx hb d_M_layOut_83 rfl (lv_at hl 1 rfl) ?_
  refine lv_iconst (v := 1) hx hb d_M_layOut_84 (by decide) ?_
  refine lv_iconst (v := 3) hx hb d_M_layOut_85 (by decide) ?_
  refine lv_aload_n hx hb d_M_layOut_86 rfl (lv_at hl 1 rfl) ?_
  obtain ⟨v46, e47, h⟩ := gb h
  refine gw_getA hx hb hT hown hK hI (ci := 7) rfl i_7 19 (by decide) wd_805 (fun _ h9 => h9) e47 d_M_layOut_87 ?_
  refine lv_iload_n hx hb d_M_layOut_90 rfl (lv_at hl 0 rfl) ?_
  obtain ⟨v48, e49, h⟩ := gb h
  refine gw_aldJ hx hb hK hI e49 d_M_layOut_91 ?_
  refine lv_aload_n hx hb d_M_layOut_92 rfl (lv_at hl 1 rfl) ?_
  obtain ⟨v50, e51, h⟩ := gb h
  refine gw_getA hx hb hT hown hK hI (ci := 7) rfl i_7 19 (by decide) wd_805 (fun _ h9 => h9) e51 d_M_layOut_93 ?_
  refine lv_iload_n hx hb d_M_layOut_96 rfl (lv_at hl 0 rfl) ?_
  refine lv_iconst (v := 3) hx hb d_M_layOut_97 (by decide) ?_
  refine lv_iadd hx hb d_M_layOut_98 ?_
  obtain ⟨v52, e53, h⟩ := gb h
  refine gw_aldJ hx hb hK hI e53 d_M_layOut_99 ?_
  obtain ⟨q56, e57, h⟩ := gb h
  obtain ⟨u54, e55⟩ := gsome h
  refine gw_callV e55 h (gw_runV (As := [.int 1, .int 3, .long v48, .long v52]) (rest := []) hx hb hml hown hT hK hZ hA hI (ci := 7) rfl e57 (m_M_point l hst D g0 a0 1 3 v48 v52 w u54 e55) ce_M_point wd_987 wd_30 ⟨by decide, by decide⟩ rfl rfl hl.1 rfl (lv_room (Nat.le_of_ble_eq_true rfl)) d_M_layOut_100 ⟨(show 0 + 0 ≤ 0 by omega), (show 0 + 0 ≤ 0 by omega)⟩) hI hA hexc (show 0 + 0 ≤ 0 by omega) (show 0 + 0 ≤ 0 by omega) (fun v58 w H locs h hI => ?_)
  refine lv_aload_n hx hb d_M_layOut_103 rfl (lv_at hl 1 rfl) ?_
  obtain ⟨v59, e60, h⟩ := gb h
  refine gw_getA hx hb hT hown hK hI (ci := 7) rfl i_7 19 (by decide) wd_805 (fun _ h9 => h9) e60 d_M_layOut_104 ?_
  refine lv_iload_n hx hb d_M_layOut_107 rfl (lv_at hl 0 rfl) ?_
  refine lv_iconst (v := 4) hx hb d_M_layOut_108 (by decide) ?_
  refine lv_iadd hx hb d_M_layOut_109 ?_
  obtain ⟨v61, e62, h⟩ := gb h
  refine gw_aldJ hx hb hK hI e62 d_M_layOut_110 ?_
  refine lv_lconst (v := 0) hx hb d_M_layOut_111 (by decide) ?_
  refine W.lcmp hx hb d_M_layOut_112 ?_
  obtain ⟨K158, eK158, h⟩ := gj h
  have hK158 : ∀ (w : gW) (H : Heap) (locs : List Loc) (ls : Array Slot), K158 w = some r → gI D s A w H locs → lv_has ls 3 [] → W p l e rm_M_layOut s m args below meth c H locs 0 0 Q (F0 m 158 ls []) := by
    intro w H locs ls h hI hl
    have h := gk1 eK158 h
    exact W.widen (show 0 ≤ 0 by omega) (show 0 ≤ 0 by omega) (hret _ _ (Option.some.inj h).symm _ _ _ _ d_M_layOut_158 hI)
  refine lv_if_ne (tgt := 135) hx hb d_M_layOut_113 (by decide) (fun c63 => ?_) (fun c63 => ?_)
  · have c63 := mt (lg_cmp_eq _ _).mpr c63
    have h := gie c63 h
    refine lv_aload_n hx hb d_M_layOut_135 rfl (lv_at hl 1 rfl) ?_
    refine lv_iconst (v := 1) hx hb d_M_layOut_136 (by decide) ?_
    refine lv_lconst (v := 0) hx hb d_M_layOut_137 (by decide) ?_
    refine lv_aload_n hx hb d_M_layOut_138 rfl (lv_at hl 1 rfl) ?_
    obtain ⟨v64, e65, h⟩ := gb h
    refine gw_getJ hx hb hT hown hK hI (ci := 7) rfl i_7 1 (by decide) wd_787 (fun _ h9 => h9) e65 d_M_layOut_139 ?_
    refine lv_lsub hx hb d_M_layOut_142 ?_
    refine lv_aload_n hx hb d_M_layOut_143 rfl (lv_at hl 1 rfl) ?_
    obtain ⟨v66, e67, h⟩ := gb h
    refine gw_getA hx hb hT hown hK hI (ci := 7) rfl i_7 19 (by decide) wd_805 (fun _ h9 => h9) e67 d_M_layOut_144 ?_
    refine lv_iload_n hx hb d_M_layOut_147 rfl (lv_at hl 0 rfl) ?_
    refine lv_iconst (v := 5) hx hb d_M_layOut_148 (by decide) ?_
    refine lv_iadd hx hb d_M_layOut_149 ?_
    obtain ⟨v68, e69, h⟩ := gb h
    refine gw_aldJ hx hb hK hI e69 d_M_layOut_150 ?_
    refine lv_lsub hx hb d_M_layOut_151 ?_
    refine lv_ldc2 (v := (-100000)) hx hb hown (hT _ wd_1097 args) d_M_layOut_152 ?_
    obtain ⟨q72, e73, h⟩ := gb h
    obtain ⟨u70, e71⟩ := gsome h
    refine gw_callV e71 h (gw_runV (As := [.int 1, .long ((0 - v64) - v68), .long (-100000)]) (rest := []) hx hb hml hown hT hK hZ hA hI (ci := 7) rfl e73 (m_M_heights l hst D g0 a0 1 ((0 - v64) - v68) (-100000) w u70 e71) ce_M_heights wd_996 wd_32 ⟨by decide, by decide⟩ rfl rfl hl.1 rfl (lv_room (Nat.le_of_ble_eq_true rfl)) d_M_layOut_155 ⟨(show 0 + 0 ≤ 0 by omega), (show 0 + 0 ≤ 0 by omega)⟩) hI hA hexc (show 0 + 0 ≤ 0 by omega) (show 0 + 0 ≤ 0 by omega) (fun v74 w H locs h hI => ?_)
    exact hK158 w H locs ls h hI (lv_sub hl [] rfl)
  · have c63 := (lg_cmp_eq _ _).mp c63
    have h := git c63 h
    refine lv_aload_n hx hb d_M_layOut_116 rfl (lv_at hl 1 rfl) ?_
    refine lv_iconst (v := 1) hx hb d_M_layOut_117 (by decide) ?_
    refine lv_aload_n hx hb d_M_layOut_118 rfl (lv_at hl 1 rfl) ?_
    obtain ⟨v75, e76, h⟩ := gb h
    refine gw_getA hx hb hT hown hK hI (ci := 7) rfl i_7 19 (by decide) wd_805 (fun _ h9 => h9) e76 d_M_layOut_119 ?_
    refine lv_iload_n hx hb d_M_layOut_122 rfl (lv_at hl 0 rfl) ?_
    refine lv_iconst (v := 5) hx hb d_M_layOut_123 (by decide) ?_
    refine lv_iadd hx hb d_M_layOut_124 ?_
    obtain ⟨v77, e78, h⟩ := gb h
    refine gw_aldJ hx hb hK hI e78 d_M_layOut_125 ?_
    refine lv_ldc2 (v := 100000) hx hb hown (hT _ wd_1096 args) d_M_layOut_126 ?_
    obtain ⟨q81, e82, h⟩ := gb h
    obtain ⟨u79, e80⟩ := gsome h
    refine gw_callV e80 h (gw_runV (As := [.int 1, .long v77, .long 100000]) (rest := []) hx hb hml hown hT hK hZ hA hI (ci := 7) rfl e82 (m_M_heights l hst D g0 a0 1 v77 100000 w u79 e80) ce_M_heights wd_996 wd_32 ⟨by decide, by decide⟩ rfl rfl hl.1 rfl (lv_room (Nat.le_of_ble_eq_true rfl)) d_M_layOut_129 ⟨(show 0 + 0 ≤ 0 by omega), (show 0 + 0 ≤ 0 by omega)⟩) hI hA hexc (show 0 + 0 ≤ 0 by omega) (show 0 + 0 ≤ 0 by omega) (fun v83 w H locs h hI => ?_)
    refine lv_goto (tgt := 158) hx hb d_M_layOut_132 (by decide) ?_
    exact hK158 w H locs ls h hI (lv_sub hl [] rfl)

abbrev b_M_doesBreak : ByteArray := prog_9_method_58_code
def y_M_doesBreak : MethodName := ⟨"BodySolidsModel", "doesBreak", "(I)Z"⟩
theorem d_M_doesBreak_0 : decode b_M_doesBreak 0 = .ok (.iconst 0, 1) := by decide +kernel
theorem d_M_doesBreak_1 : decode b_M_doesBreak 1 = .ok (.istore_n 2, 1) := by decide +kernel
theorem d_M_doesBreak_2 : decode b_M_doesBreak 2 = .ok (.iload_n 2, 1) := by decide +kernel
theorem d_M_doesBreak_3 : decode b_M_doesBreak 3 = .ok (.aload_n 0, 1) := by decide +kernel
theorem d_M_doesBreak_4 : decode b_M_doesBreak 4 = .ok (.getfield 269, 3) := by decide +kernel
theorem d_M_doesBreak_7 : decode b_M_doesBreak 7 = .ok (.if_icmp .ge 89, 3) := by decide +kernel
theorem d_M_doesBreak_10 : decode b_M_doesBreak 10 = .ok (.aload_n 0, 1) := by decide +kernel
theorem d_M_doesBreak_11 : decode b_M_doesBreak 11 = .ok (.getfield 50, 3) := by decide +kernel
theorem d_M_doesBreak_14 : decode b_M_doesBreak 14 = .ok (.bipush 6, 2) := by decide +kernel
theorem d_M_doesBreak_16 : decode b_M_doesBreak 16 = .ok (.iload_n 2, 1) := by decide +kernel
theorem d_M_doesBreak_17 : decode b_M_doesBreak 17 = .ok (.imul, 1) := by decide +kernel
theorem d_M_doesBreak_18 : decode b_M_doesBreak 18 = .ok (.iconst 4, 1) := by decide +kernel
theorem d_M_doesBreak_19 : decode b_M_doesBreak 19 = .ok (.iadd, 1) := by decide +kernel
theorem d_M_doesBreak_20 : decode b_M_doesBreak 20 = .ok (.laload, 1) := by decide +kernel
theorem d_M_doesBreak_21 : decode b_M_doesBreak 21 = .ok (.aload_n 0, 1) := by decide +kernel
theorem d_M_doesBreak_22 : decode b_M_doesBreak 22 = .ok (.getfield 47, 3) := by decide +kernel
theorem d_M_doesBreak_25 : decode b_M_doesBreak 25 = .ok (.iload_n 1, 1) := by decide +kernel
theorem d_M_doesBreak_26 : decode b_M_doesBreak 26 = .ok (.iaload, 1) := by decide +kernel
theorem d_M_doesBreak_27 : decode b_M_doesBreak 27 = .ok (.i2l, 1) := by decide +kernel
theorem d_M_doesBreak_28 : decode b_M_doesBreak 28 = .ok (.lcmp, 1) := by decide +kernel
theorem d_M_doesBreak_29 : decode b_M_doesBreak 29 = .ok (.ifCond .eq 6, 3) := by decide +kernel
theorem d_M_doesBreak_32 : decode b_M_doesBreak 32 = .ok (.goto 58, 3) := by decide +kernel
theorem d_M_doesBreak_35 : decode b_M_doesBreak 35 = .ok (.iconst 0, 1) := by decide +kernel
theorem d_M_doesBreak_36 : decode b_M_doesBreak 36 = .ok (.istore_n 3, 1) := by decide +kernel
theorem d_M_doesBreak_37 : decode b_M_doesBreak 37 = .ok (.iload_n 3, 1) := by decide +kernel
theorem d_M_doesBreak_38 : decode b_M_doesBreak 38 = .ok (.aload_n 0, 1) := by decide +kernel
theorem d_M_doesBreak_39 : decode b_M_doesBreak 39 = .ok (.getfield 7, 3) := by decide +kernel
theorem d_M_doesBreak_42 : decode b_M_doesBreak 42 = .ok (.aload_n 0, 1) := by decide +kernel
theorem d_M_doesBreak_43 : decode b_M_doesBreak 43 = .ok (.getfield 35, 3) := by decide +kernel
theorem d_M_doesBreak_46 : decode b_M_doesBreak 46 = .ok (.iload_n 1, 1) := by decide +kernel
theorem d_M_doesBreak_47 : decode b_M_doesBreak 47 = .ok (.iaload, 1) := by decide +kernel
theorem d_M_doesBreak_48 : decode b_M_doesBreak 48 = .ok (.iaload, 1) := by decide +kernel
theorem d_M_doesBreak_49 : decode b_M_doesBreak 49 = .ok (.if_icmp .ge 41, 3) := by decide +kernel
theorem d_M_doesBreak_52 : decode b_M_doesBreak 52 = .ok (.aload_n 0, 1) := by decide +kernel
theorem d_M_doesBreak_53 : decode b_M_doesBreak 53 = .ok (.iconst 0, 1) := by decide +kernel
theorem d_M_doesBreak_54 : decode b_M_doesBreak 54 = .ok (.iload_n 1, 1) := by decide +kernel
theorem d_M_doesBreak_55 : decode b_M_doesBreak 55 = .ok (.bipush 12, 2) := by decide +kernel
theorem d_M_doesBreak_57 : decode b_M_doesBreak 57 = .ok (.aload_n 0, 1) := by decide +kernel
theorem d_M_doesBreak_58 : decode b_M_doesBreak 58 = .ok (.getfield 35, 3) := by decide +kernel
theorem d_M_doesBreak_61 : decode b_M_doesBreak 61 = .ok (.iload_n 1, 1) := by decide +kernel
theorem d_M_doesBreak_62 : decode b_M_doesBreak 62 = .ok (.iaload, 1) := by decide +kernel
theorem d_M_doesBreak_63 : decode b_M_doesBreak 63 = .ok (.imul, 1) := by decide +kernel
theorem d_M_doesBreak_64 : decode b_M_doesBreak 64 = .ok (.iload_n 3, 1) := by decide +kernel
theorem d_M_doesBreak_65 : decode b_M_doesBreak 65 = .ok (.iadd, 1) := by decide +kernel
theorem d_M_doesBreak_66 : decode b_M_doesBreak 66 = .ok (.invokevirtual 252, 3) := by decide +kernel
theorem d_M_doesBreak_69 : decode b_M_doesBreak 69 = .ok (.aload_n 0, 1) := by decide +kernel
theorem d_M_doesBreak_70 : decode b_M_doesBreak 70 = .ok (.iload_n 2, 1) := by decide +kernel
theorem d_M_doesBreak_71 : decode b_M_doesBreak 71 = .ok (.invokevirtual 272, 3) := by decide +kernel
theorem d_M_doesBreak_74 : decode b_M_doesBreak 74 = .ok (.aload_n 0, 1) := by decide +kernel
theorem d_M_doesBreak_75 : decode b_M_doesBreak 75 = .ok (.invokevirtual 256, 3) := by decide +kernel
theorem d_M_doesBreak_78 : decode b_M_doesBreak 78 = .ok (.iconst 2, 1) := by decide +kernel
theorem d_M_doesBreak_79 : decode b_M_doesBreak 79 = .ok (.if_icmp .ne 5, 3) := by decide +kernel
theorem d_M_doesBreak_82 : decode b_M_doesBreak 82 = .ok (.iconst 1, 1) := by decide +kernel
theorem d_M_doesBreak_83 : decode b_M_doesBreak 83 = .ok (.ireturn, 1) := by decide +kernel
theorem d_M_doesBreak_84 : decode b_M_doesBreak 84 = .ok (.iinc 3 1, 3) := by decide +kernel
theorem d_M_doesBreak_87 : decode b_M_doesBreak 87 = .ok (.goto (-50), 3) := by decide +kernel
theorem d_M_doesBreak_90 : decode b_M_doesBreak 90 = .ok (.iinc 2 1, 3) := by decide +kernel
theorem d_M_doesBreak_93 : decode b_M_doesBreak 93 = .ok (.goto (-91), 3) := by decide +kernel
theorem d_M_doesBreak_96 : decode b_M_doesBreak 96 = .ok (.iconst 0, 1) := by decide +kernel
theorem d_M_doesBreak_97 : decode b_M_doesBreak 97 = .ok (.ireturn, 1) := by decide +kernel
abbrev rm_M_doesBreak : Room := { frames := 5, cells := 0, slots := 0, locals := 163 }
theorem ce_M_doesBreak : gCe y_M_doesBreak (.code y_M_doesBreak b_M_doesBreak 4 (some .boolean)) 4 1 false := gCe.code wd_1091 wd_57 wd_1090 (by decide) (by decide +kernel)
def f_M_doesBreak_L37 (g0 : gG) (c0 : Nat) (c1 : Int32) (c2 : Int32) (K90 : gW → gX Int32) (K82 : gW → gX Int32) : Nat → Int32 → gW → gX Int32
  | 0, _, _ => none
  | n + 1, z3, w => (gfA w c0 7 3).bind fun v15 => (gfA w c0 7 13).bind fun v17 => (gaI w v17 c1).bind fun v19 => (gaI w v15 v19).bind fun v21 => if v21 ≤ z3 then (K90 w) else ((gfA w c0 7 13).bind fun v24 => (gaI w v24 c1).bind fun v26 => (gck w c0 7).bind fun _ => gbind (f_M_lay g0 c0 0 c1 ((12 * v26) + z3) w) fun v32 w => (gck w c0 7).bind fun _ => gbind (f_M_layOut g0 c0 c2 w) fun v37 w => (gck w c0 7).bind fun _ => gbind (f_M_both g0 c0 w) fun v42 w => if v42 = 2 then (K82 w) else (f_M_doesBreak_L37 g0 c0 c1 c2 K90 K82 n (z3 + 1) w))
def f_M_doesBreak_L2 (g0 : gG) (c0 : Nat) (c1 : Int32) (K96 : gW → gX Int32) (K82 : gW → gX Int32) : Nat → Int32 → gW → gX Int32
  | 0, _, _ => none
  | n + 1, z2, w => (gfI w c0 7 18).bind fun v3 => if v3 ≤ z2 then (K96 w) else ((gfA w c0 7 19).bind fun v6 => (gaJ w v6 ((6 * z2) + 4)).bind fun v8 => (gfA w c0 7 17).bind fun v10 => (gaI w v10 c1).bind fun v12 => gjoin (fun K90 => if v8 = (v12.toInt64) then (f_M_doesBreak_L37 g0 c0 c1 z2 K90 K82 64 0 w) else (K90 w)) (fun (w : gW) => f_M_doesBreak_L2 g0 c0 c1 K96 K82 n (z2 + 1) w))
def f_M_doesBreak (g0 : gG) (a0 : Nat) (p1 : Int32) (w : gW) : gX Int32 := gjoin (fun K96 => gjoin (fun K82 => f_M_doesBreak_L2 g0 a0 p1 K96 K82 64 0 w) (fun (w : gW) => gguard ((1 : Int32) = 0 ∨ (1 : Int32) = 1) (some (.inr 1, w)))) (fun (w : gW) => gguard ((0 : Int32) = 0 ∨ (0 : Int32) = 1) (some (.inr 0, w)))
set_option maxHeartbeats 4000000 in
set_option maxRecDepth 100000 in
theorem m_M_doesBreak (l : Launch) (hst : l.stackTraces = false) (D : gD) (g0 : gG) (a0 : Nat) (p1 : Int32) (w : gW) (r : (String ⊕ Int32) × gW) (h : f_M_doesBreak g0 a0 p1 w = some r) : gMet l y_M_doesBreak (.code y_M_doesBreak b_M_doesBreak 4 (some .boolean)) rm_M_doesBreak D g0 [.ref a0, .int p1] w (goI r) := by
  refine gw_ofZ (by decide +kernel) (Nat.le_of_ble_eq_true rfl) ?_
  intro p e s m below meth c ls args A Q hx hb hml hown hlocks hin hnt hT hK hZ hA hret hexc hthr hI hl
  obtain ⟨H, hH⟩ : ∃ H, H = s.heap := ⟨_, rfl⟩
  rw [← hH] at hI ⊢
  obtain ⟨locs, hlocs⟩ : ∃ z : List Loc, z = [] := ⟨_, rfl⟩
  rw [← hlocs] at hI ⊢
  have hl : lv_has ls 4 [(0, .ref a0), (1, .int p1)] := hl
  unfold f_M_doesBreak at h
  refine lv_iconst (v := 0) hx hb d_M_doesBreak_0 (by decide) ?_
  refine lv_istore_n (lv' := [(2, .int 0), (0, .ref a0), (1, .int p1)]) hx hb d_M_doesBreak_1 rfl hl (by decide) rfl (fun ls hl => ?_)
  obtain ⟨K96, eK96, h⟩ := gj h
  have hK96 : ∀ (w : gW) (H : Heap) (locs : List Loc) (ls : Array Slot), K96 w = some r → gI D s A w H locs → lv_has ls 4 [] → W p l e rm_M_doesBreak s m args below meth c H locs 0 0 Q (F0 m 96 ls []) := by
    intro w H locs ls h hI hl
    have h := gk1 eK96 h
    refine lv_iconst (v := 0) hx hb d_M_doesBreak_96 (by decide) ?_
    obtain ⟨g1, h⟩ := gif h
    exact W.widen (show 0 ≤ 0 by omega) (show 0 ≤ 0 by omega) (hret g1 0 _ (Option.some.inj h).symm _ _ _ _ d_M_doesBreak_97 hI)
  obtain ⟨K82, eK82, h⟩ := gj h
  have hK82 : ∀ (w : gW) (H : Heap) (locs : List Loc) (ls : Array Slot), K82 w = some r → gI D s A w H locs → lv_has ls 4 [] → W p l e rm_M_doesBreak s m args below meth c H locs 0 0 Q (F0 m 82 ls []) := by
    intro w H locs ls h hI hl
    have h := gk1 eK82 h
    refine lv_iconst (v := 1) hx hb d_M_doesBreak_82 (by decide) ?_
    obtain ⟨g2, h⟩ := gif h
    exact W.widen (show 0 ≤ 0 by omega) (show 0 ≤ 0 by omega) (hret g2 0 _ (Option.some.inj h).symm _ _ _ _ d_M_doesBreak_83 hI)
  have hL2 : ∀ (n : Nat), ∀ (z3 : Int32) (w : gW) (H : Heap) (locs : List Loc) (ls : Array Slot), f_M_doesBreak_L2 g0 a0 p1 K96 K82 n z3 w = some r → gI D s A w H locs → lv_has ls 4 [(0, .ref a0), (1, .int p1), (2, .int z3)] → W p l e rm_M_doesBreak s m args below meth c H locs 0 0 Q (F0 m 2 ls []) := by
    intro n
    induction n with
    | zero => intro z3 w H locs ls h hI hl; exact absurd h (by simp [f_M_doesBreak_L2])
    | succ n ih =>
      intro z3 w H locs ls h hI hl
      rw [f_M_doesBreak_L2] at h
      refine lv_iload_n hx hb d_M_doesBreak_2 rfl (lv_at hl 2 rfl) ?_
      refine lv_aload_n hx hb d_M_doesBreak_3 rfl (lv_at hl 0 rfl) ?_
      obtain ⟨v4, e5, h⟩ := gb h
      refine gw_getI hx hb hT hown hK hI (ci := 7) rfl i_7 18 (by decide) wd_804 (fun _ h9 => h9) e5 d_M_doesBreak_4 ?_
      refine lv_icmp_ge (tgt := 96) hx hb d_M_doesBreak_7 (by decide) (fun c6 => ?_) (fun c6 => ?_)
      · skip
        have h := git c6 h
        exact hK96 w H locs ls h hI (lv_sub hl [] rfl)
      · skip
        have h := gie c6 h
        refine lv_aload_n hx hb d_M_doesBreak_10 rfl (lv_at hl 0 rfl) ?_
        obtain ⟨v7, e8, h⟩ := gb h
        refine gw_getA hx hb hT hown hK hI (ci := 7) rfl i_7 19 (by decide) wd_805 (fun _ h9 => h9) e8 d_M_doesBreak_11 ?_
        refine lv_bipush (v := 6) hx hb d_M_doesBreak_14 (by decide) ?_
        refine lv_iload_n hx hb d_M_doesBreak_16 rfl (lv_at hl 2 rfl) ?_
        refine lv_imul hx hb d_M_doesBreak_17 ?_
        refine lv_iconst (v := 4) hx hb d_M_doesBreak_18 (by decide) ?_
        refine lv_iadd hx hb d_M_doesBreak_19 ?_
        obtain ⟨v9, e10, h⟩ := gb h
        refine gw_aldJ hx hb hK hI e10 d_M_doesBreak_20 ?_
        refine lv_aload_n hx hb d_M_doesBreak_21 rfl (lv_at hl 0 rfl) ?_
        obtain ⟨v11, e12, h⟩ := gb h
        refine gw_getA hx hb hT hown hK hI (ci := 7) rfl i_7 17 (by decide) wd_803 (fun _ h9 => h9) e12 d_M_doesBreak_22 ?_
        refine lv_iload_n hx hb d_M_doesBreak_25 rfl (lv_at hl 1 rfl) ?_
        obtain ⟨v13, e14, h⟩ := gb h
        refine gw_aldI hx hb hK hI e14 d_M_doesBreak_26 ?_
        refine lv_i2l (v := v13.toInt64) hx hb d_M_doesBreak_27 rfl ?_
        refine W.lcmp hx hb d_M_doesBreak_28 ?_
        obtain ⟨K90, eK90, h⟩ := gj h
        have hK90 : ∀ (w : gW) (H : Heap) (locs : List Loc) (ls : Array Slot), K90 w = some r → gI D s A w H locs → lv_has ls 4 [(0, .ref a0), (1, .int p1), (2, .int z3)] → W p l e rm_M_doesBreak s m args below meth c H locs 0 0 Q (F0 m 90 ls []) := by
          intro w H locs ls h hI hl
          have h := gk1 eK90 h
          refine lv_iinc (v := z3 + 1) (lv' := [(2, .int (z3 + 1)), (0, .ref a0), (1, .int p1)]) hx hb d_M_doesBreak_90 hl (k := 2) rfl rfl (by decide) rfl (fun ls hl => ?_)
          refine lv_goto (tgt := 2) hx hb d_M_doesBreak_93 (by decide) ?_
          exact ih _ w H locs ls h hI (lv_sub hl [1, 2, 0] rfl)
        refine lv_if_eq (tgt := 35) hx hb d_M_doesBreak_29 (by decide) (fun c15 => ?_) (fun c15 => ?_)
        · have c15 := (lg_cmp_eq _ _).mp c15
          have h := git c15 h
          refine lv_iconst (v := 0) hx hb d_M_doesBreak_35 (by decide) ?_
          refine lv_istore_n (lv' := [(3, .int 0), (0, .ref a0), (1, .int p1), (2, .int z3)]) hx hb d_M_doesBreak_36 rfl hl (by decide) rfl (fun ls hl => ?_)
          have hL37 : ∀ (n : Nat), ∀ (z16 : Int32) (w : gW) (H : Heap) (locs : List Loc) (ls : Array Slot), f_M_doesBreak_L37 g0 a0 p1 z3 K90 K82 n z16 w = some r → gI D s A w H locs → lv_has ls 4 [(0, .ref a0), (1, .int p1), (2, .int z3), (3, .int z16)] → W p l e rm_M_doesBreak s m args below meth c H locs 0 0 Q (F0 m 37 ls []) := by
            intro n
            induction n with
            | zero => intro z16 w H locs ls h hI hl; exact absurd h (by simp [f_M_doesBreak_L37])
            | succ n ih =>
              intro z16 w H locs ls h hI hl
              rw [f_M_doesBreak_L37] at h
              refine lv_iload_n hx hb d_M_doesBreak_37 rfl (lv_at hl 3 rfl) ?_
              refine lv_aload_n hx hb d_M_doesBreak_38 rfl (lv_at hl 0 rfl) ?_
              obtain ⟨v17, e18, h⟩ := gb h
              refine gw_getA hx hb hT hown hK hI (ci := 7) rfl i_7 3 (by decide) wd_789 (fun _ h9 => h9) e18 d_M_doesBreak_39 ?_
              refine lv_aload_n hx hb d_M_doesBreak_42 rfl (lv_at hl 0 rfl) ?_
              obtain ⟨v19, e20, h⟩ := gb h
              refine gw_getA hx hb hT hown hK hI (ci := 7) rfl i_7 13 (by decide) wd_799 (fun _ h9 => h9) e20 d_M_doesBreak_43 ?_
              refine lv_iload_n hx hb d_M_doesBreak_46 rfl (lv_at hl 1 rfl) ?_
              obtain ⟨v21, e22, h⟩ := gb h
              refine gw_aldI hx hb hK hI e22 d_M_doesBreak_47 ?_
              obtain ⟨v23, e24, h⟩ := gb h
              refine gw_aldI hx hb hK hI e24 d_M_doesBreak_48 ?_
              refine lv_icmp_ge (tgt := 90) hx hb d_M_doesBreak_49 (by decide) (fun c25 => ?_) (fun c25 => ?_)
              · skip
                have h := git c25 h
                exact hK90 w H locs ls h hI (lv_sub hl [0, 1, 2] rfl)
              · skip
                have h := gie c25 h
                refine lv_aload_n hx hb d_M_doesBreak_52 rfl (lv_at hl 0 rfl) ?_
                refine lv_iconst (v := 0) hx hb d_M_doesBreak_53 (by decide) ?_
                refine lv_iload_n hx hb d_M_doesBreak_54 rfl (lv_at hl 1 rfl) ?_
                refine lv_bipush (v := 12) hx hb d_M_doesBreak_55 (by decide) ?_
                refine lv_aload_n hx hb d_M_doesBreak_57 rfl (lv_at hl 0 rfl) ?_
                obtain ⟨v26, e27, h⟩ := gb h
                refine gw_getA hx hb hT hown hK hI (ci := 7) rfl i_7 13 (by decide) wd_799 (fun _ h9 => h9) e27 d_M_doesBreak_58 ?_
                refine lv_iload_n hx hb d_M_doesBreak_61 rfl (lv_at hl 1 rfl) ?_
                obtain ⟨v28, e29, h⟩ := gb h
                refine gw_aldI hx hb hK hI e29 d_M_doesBreak_62 ?_
                refine lv_imul hx hb d_M_doesBreak_63 ?_
                refine lv_iload_n hx hb d_M_doesBreak_64 rfl (lv_at hl 3 rfl) ?_
                refine lv_iadd hx hb d_M_doesBreak_65 ?_
                obtain ⟨q32, e33, h⟩ := gb h
                obtain ⟨u30, e31⟩ := gsome h
                refine gw_callV e31 h (gw_runV (As := [.int 0, .int p1, .int ((12 * v28) + z16)]) (rest := []) hx hb hml hown hT hK hZ hA hI (ci := 7) rfl e33 (m_M_lay l hst D g0 a0 0 p1 ((12 * v28) + z16) w u30 e31) ce_M_lay wd_967 wd_25 ⟨by decide, by decide⟩ rfl rfl hl.1 rfl (lv_room (Nat.le_of_ble_eq_true rfl)) d_M_doesBreak_66 ⟨(show 0 + 0 ≤ 0 by omega), (show 0 + 0 ≤ 0 by omega)⟩) hI hA hexc (show 0 + 0 ≤ 0 by omega) (show 0 + 0 ≤ 0 by omega) (fun v34 w H locs h hI => ?_)
                refine lv_aload_n hx hb d_M_doesBreak_69 rfl (lv_at hl 0 rfl) ?_
                refine lv_iload_n hx hb d_M_doesBreak_70 rfl (lv_at hl 2 rfl) ?_
                obtain ⟨q37, e38, h⟩ := gb h
                obtain ⟨u35, e36⟩ := gsome h
                refine gw_callV e36 h (gw_runV (As := [.int z3]) (rest := []) hx hb hml hown hT hK hZ hA hI (ci := 7) rfl e38 (m_M_layOut l hst D g0 a0 z3 w u35 e36) ce_M_layOut wd_1092 wd_45 ⟨by decide, by decide⟩ rfl rfl hl.1 rfl (lv_room (Nat.le_of_ble_eq_true rfl)) d_M_doesBreak_71 ⟨(show 0 + 0 ≤ 0 by omega), (show 0 + 0 ≤ 0 by omega)⟩) hI hA hexc (show 0 + 0 ≤ 0 by omega) (show 0 + 0 ≤ 0 by omega) (fun v39 w H locs h hI => ?_)
                refine lv_aload_n hx hb d_M_doesBreak_74 rfl (lv_at hl 0 rfl) ?_
                obtain ⟨q42, e43, h⟩ := gb h
                obtain ⟨u40, e41⟩ := gsome h
                refine gw_callI e41 h (gw_runV (As := []) (rest := []) hx hb hml hown hT hK hZ hA hI (ci := 7) rfl e43 (m_M_both l hst D g0 a0 w u40 e41) ce_M_both wd_1000 wd_33 ⟨by decide, by decide⟩ rfl rfl hl.1 rfl (lv_room (Nat.le_of_ble_eq_true rfl)) d_M_doesBreak_75 ⟨(show 0 + 0 ≤ 0 by omega), (show 0 + 0 ≤ 0 by omega)⟩) hI hA hexc (show 0 + 0 ≤ 0 by omega) (show 0 + 0 ≤ 0 by omega) (fun v44 w H locs h hI => ?_)
                refine lv_iconst (v := 2) hx hb d_M_doesBreak_78 (by decide) ?_
                refine lv_icmp_ne (tgt := 84) hx hb d_M_doesBreak_79 (by decide) (fun c45 => ?_) (fun c45 => ?_)
                · skip
                  have h := gie c45 h
                  refine lv_iinc (v := z16 + 1) (lv' := [(3, .int (z16 + 1)), (0, .ref a0), (1, .int p1), (2, .int z3)]) hx hb d_M_doesBreak_84 hl (k := 3) rfl rfl (by decide) rfl (fun ls hl => ?_)
                  refine lv_goto (tgt := 37) hx hb d_M_doesBreak_87 (by decide) ?_
                  exact ih _ w H locs ls h hI (lv_sub hl [1, 2, 3, 0] rfl)
                · skip
                  have h := git c45 h
                  exact hK82 w H locs ls h hI (lv_sub hl [] rfl)
          exact hL37 64 _ w H locs ls h hI (lv_sub hl [1, 2, 3, 0] rfl)
        · have c15 := mt (lg_cmp_eq _ _).mpr c15
          have h := gie c15 h
          refine lv_goto (tgt := 90) hx hb d_M_doesBreak_32 (by decide) ?_
          exact hK90 w H locs ls h hI (lv_sub hl [0, 1, 2] rfl)
  exact hL2 64 _ w H locs ls h hI (lv_sub hl [1, 2, 0] rfl)

abbrev b_M_breaks : ByteArray := prog_9_method_59_code
def y_M_breaks : MethodName := ⟨"BodySolidsModel", "breaks", "(I)I"⟩
theorem d_M_breaks_0 : decode b_M_breaks 0 = .ok (.aload_n 0, 1) := by decide +kernel
theorem d_M_breaks_1 : decode b_M_breaks 1 = .ok (.iconst 0, 1) := by decide +kernel
theorem d_M_breaks_2 : decode b_M_breaks 2 = .ok (.putfield 80, 3) := by decide +kernel
theorem d_M_breaks_5 : decode b_M_breaks 5 = .ok (.iload_n 1, 1) := by decide +kernel
theorem d_M_breaks_6 : decode b_M_breaks 6 = .ok (.istore_n 2, 1) := by decide +kernel
theorem d_M_breaks_7 : decode b_M_breaks 7 = .ok (.iconst 0, 1) := by decide +kernel
theorem d_M_breaks_8 : decode b_M_breaks 8 = .ok (.istore_n 3, 1) := by decide +kernel
theorem d_M_breaks_9 : decode b_M_breaks 9 = .ok (.iload_n 3, 1) := by decide +kernel
theorem d_M_breaks_10 : decode b_M_breaks 10 = .ok (.aload_n 0, 1) := by decide +kernel
theorem d_M_breaks_11 : decode b_M_breaks 11 = .ok (.getfield 95, 3) := by decide +kernel
theorem d_M_breaks_14 : decode b_M_breaks 14 = .ok (.if_icmp .ge 33, 3) := by decide +kernel
theorem d_M_breaks_17 : decode b_M_breaks 17 = .ok (.iload_n 1, 1) := by decide +kernel
theorem d_M_breaks_18 : decode b_M_breaks 18 = .ok (.ifCond .lt 29, 3) := by decide +kernel
theorem d_M_breaks_21 : decode b_M_breaks 21 = .ok (.aload_n 0, 1) := by decide +kernel
theorem d_M_breaks_22 : decode b_M_breaks 22 = .ok (.iload_n 3, 1) := by decide +kernel
theorem d_M_breaks_23 : decode b_M_breaks 23 = .ok (.invokevirtual 276, 3) := by decide +kernel
theorem d_M_breaks_26 : decode b_M_breaks 26 = .ok (.ifCond .ne 6, 3) := by decide +kernel
theorem d_M_breaks_29 : decode b_M_breaks 29 = .ok (.goto 12, 3) := by decide +kernel
theorem d_M_breaks_32 : decode b_M_breaks 32 = .ok (.iload_n 2, 1) := by decide +kernel
theorem d_M_breaks_33 : decode b_M_breaks 33 = .ok (.ifCond .ne 5, 3) := by decide +kernel
theorem d_M_breaks_36 : decode b_M_breaks 36 = .ok (.iload_n 3, 1) := by decide +kernel
theorem d_M_breaks_37 : decode b_M_breaks 37 = .ok (.ireturn, 1) := by decide +kernel
theorem d_M_breaks_38 : decode b_M_breaks 38 = .ok (.iinc 2 (-1), 3) := by decide +kernel
theorem d_M_breaks_41 : decode b_M_breaks 41 = .ok (.iinc 3 1, 3) := by decide +kernel
theorem d_M_breaks_44 : decode b_M_breaks 44 = .ok (.goto (-35), 3) := by decide +kernel
theorem d_M_breaks_47 : decode b_M_breaks 47 = .ok (.iconst (-1), 1) := by decide +kernel
theorem d_M_breaks_48 : decode b_M_breaks 48 = .ok (.ireturn, 1) := by decide +kernel
abbrev rm_M_breaks : Room := { frames := 6, cells := 0, slots := 0, locals := 186 }
theorem ce_M_breaks : gCe y_M_breaks (.code y_M_breaks b_M_breaks 4 (some .int)) 4 1 false := gCe.code wd_1087 wd_57 wd_1085 (by decide) (by decide +kernel)
def f_M_breaks_L9 (g0 : gG) (c0 : Nat) (c1 : Int32) (K47 : gW → gX Int32) (K36 : Int32 → gW → gX Int32) : Nat → Int32 → Int32 → gW → gX Int32
  | 0, _, _, _ => none
  | n + 1, z2, z3, w => (gfI w c0 7 12).bind fun v3 => if v3 ≤ z3 then (K47 w) else (if c1 < 0 then (K47 w) else ((gck w c0 7).bind fun _ => gbind (f_M_doesBreak g0 c0 z3 w) fun v11 w => gjoin (fun K41 => if v11 = 0 then (K41 z2 w) else (if z2 = 0 then (K36 z3 w) else (K41 (z2 + (-1)) w))) (fun (x12 : Int32) (w : gW) => f_M_breaks_L9 g0 c0 c1 K47 K36 n x12 (z3 + 1) w)))
def f_M_breaks (g0 : gG) (a0 : Nat) (p1 : Int32) (w : gW) : gX Int32 := (gp w a0 7 0 (.int 0)).bind fun w => gjoin (fun K47 => gjoin (fun K36 => f_M_breaks_L9 g0 a0 p1 K47 K36 64 p1 0 w) (fun (x2 : Int32) (w : gW) => some (.inr x2, w))) (fun (w : gW) => some (.inr (-1), w))
set_option maxHeartbeats 4000000 in
set_option maxRecDepth 100000 in
theorem m_M_breaks (l : Launch) (hst : l.stackTraces = false) (D : gD) (g0 : gG) (a0 : Nat) (p1 : Int32) (w : gW) (r : (String ⊕ Int32) × gW) (h : f_M_breaks g0 a0 p1 w = some r) : gMet l y_M_breaks (.code y_M_breaks b_M_breaks 4 (some .int)) rm_M_breaks D g0 [.ref a0, .int p1] w (goI r) := by
  refine gw_ofI (by decide +kernel) (Nat.le_of_ble_eq_true rfl) ?_
  intro p e s m below meth c ls args A Q hx hb hml hown hlocks hin hnt hT hK hZ hA hret hexc hthr hI hl
  obtain ⟨H, hH⟩ : ∃ H, H = s.heap := ⟨_, rfl⟩
  rw [← hH] at hI ⊢
  obtain ⟨locs, hlocs⟩ : ∃ z : List Loc, z = [] := ⟨_, rfl⟩
  rw [← hlocs] at hI ⊢
  have hl : lv_has ls 4 [(0, .ref a0), (1, .int p1)] := hl
  unfold f_M_breaks at h
  refine lv_aload_n hx hb d_M_breaks_0 rfl (lv_at hl 0 rfl) ?_
  refine lv_iconst (v := 0) hx hb d_M_breaks_1 (by decide) ?_
  obtain ⟨w, e1, h⟩ := gb h
  refine gw_put hx hb hT hown hK hI (ci := 7) rfl i_7 t_7 t_7_ok n_7 0 (by decide) wd_786 (fun _ h9 => h9) rfl (ty := .int) (by decide +kernel) rfl rfl e1 d_M_breaks_2 (fun H locs hI => ?_)
  refine lv_iload_n hx hb d_M_breaks_5 rfl (lv_at hl 1 rfl) ?_
  refine lv_istore_n (lv' := [(2, .int p1), (0, .ref a0), (1, .int p1)]) hx hb d_M_breaks_6 rfl hl (by decide) rfl (fun ls hl => ?_)
  refine lv_iconst (v := 0) hx hb d_M_breaks_7 (by decide) ?_
  refine lv_istore_n (lv' := [(3, .int 0), (2, .int p1), (0, .ref a0), (1, .int p1)]) hx hb d_M_breaks_8 rfl hl (by decide) rfl (fun ls hl => ?_)
  obtain ⟨K47, eK47, h⟩ := gj h
  have hK47 : ∀ (w : gW) (H : Heap) (locs : List Loc) (ls : Array Slot), K47 w = some r → gI D s A w H locs → lv_has ls 4 [] → W p l e rm_M_breaks s m args below meth c H locs 0 0 Q (F0 m 47 ls []) := by
    intro w H locs ls h hI hl
    have h := gk1 eK47 h
    refine lv_iconst (v := -1) hx hb d_M_breaks_47 (by decide) ?_
    exact W.widen (show 0 ≤ 0 by omega) (show 0 ≤ 0 by omega) (hret _ _ (Option.some.inj h).symm _ _ _ _ d_M_breaks_48 hI)
  obtain ⟨K36, eK36, h⟩ := gj h
  have hK36 : ∀ (x2 : Int32) (w : gW) (H : Heap) (locs : List Loc) (ls : Array Slot), K36 x2 w = some r → gI D s A w H locs → lv_has ls 4 [(3, .int x2)] → W p l e rm_M_breaks s m args below meth c H locs 0 0 Q (F0 m 36 ls []) := by
    intro x2 w H locs ls h hI hl
    have h := gk2 eK36 h
    refine lv_iload_n hx hb d_M_breaks_36 rfl (lv_at hl 0 rfl) ?_
    exact W.widen (show 0 ≤ 0 by omega) (show 0 ≤ 0 by omega) (hret _ _ (Option.some.inj h).symm _ _ _ _ d_M_breaks_37 hI)
  have hL9 : ∀ (n : Nat), ∀ (z3 : Int32) (z4 : Int32) (w : gW) (H : Heap) (locs : List Loc) (ls : Array Slot), f_M_breaks_L9 g0 a0 p1 K47 K36 n z3 z4 w = some r → gI D s A w H locs → lv_has ls 4 [(0, .ref a0), (1, .int p1), (2, .int z3), (3, .int z4)] → W p l e rm_M_breaks s m args below meth c H locs 0 0 Q (F0 m 9 ls []) := by
    intro n
    induction n with
    | zero => intro z3 z4 w H locs ls h hI hl; exact absurd h (by simp [f_M_breaks_L9])
    | succ n ih =>
      intro z3 z4 w H locs ls h hI hl
      rw [f_M_breaks_L9] at h
      refine lv_iload_n hx hb d_M_breaks_9 rfl (lv_at hl 3 rfl) ?_
      refine lv_aload_n hx hb d_M_breaks_10 rfl (lv_at hl 0 rfl) ?_
      obtain ⟨v5, e6, h⟩ := gb h
      refine gw_getI hx hb hT hown hK hI (ci := 7) rfl i_7 12 (by decide) wd_798 (fun _ h9 => h9) e6 d_M_breaks_11 ?_
      refine lv_icmp_ge (tgt := 47) hx hb d_M_breaks_14 (by decide) (fun c7 => ?_) (fun c7 => ?_)
      · skip
        have h := git c7 h
        exact hK47 w H locs ls h hI (lv_sub hl [] rfl)
      · skip
        have h := gie c7 h
        refine lv_iload_n hx hb d_M_breaks_17 rfl (lv_at hl 1 rfl) ?_
        refine lv_if_lt (tgt := 47) hx hb d_M_breaks_18 (by decide) (fun c8 => ?_) (fun c8 => ?_)
        · skip
          have h := git c8 h
          exact hK47 w H locs ls h hI (lv_sub hl [] rfl)
        · skip
          have h := gie c8 h
          refine lv_aload_n hx hb d_M_breaks_21 rfl (lv_at hl 0 rfl) ?_
          refine lv_iload_n hx hb d_M_breaks_22 rfl (lv_at hl 3 rfl) ?_
          obtain ⟨q11, e12, h⟩ := gb h
          obtain ⟨u9, e10⟩ := gsome h
          refine gw_callI e10 h (gw_runV (As := [.int z4]) (rest := []) hx hb hml hown hT hK hZ hA hI (ci := 7) rfl e12 (m_M_doesBreak l hst D g0 a0 z4 w u9 e10) ce_M_doesBreak wd_1088 wd_44 ⟨by decide, by decide⟩ rfl rfl hl.1 rfl (lv_room (Nat.le_of_ble_eq_true rfl)) d_M_breaks_23 ⟨(show 0 + 0 ≤ 0 by omega), (show 0 + 0 ≤ 0 by omega)⟩) hI hA hexc (show 0 + 0 ≤ 0 by omega) (show 0 + 0 ≤ 0 by omega) (fun v13 w H locs h hI => ?_)
          obtain ⟨K41, eK41, h⟩ := gj h
          have hK41 : ∀ (x14 : Int32) (w : gW) (H : Heap) (locs : List Loc) (ls : Array Slot), K41 x14 w = some r → gI D s A w H locs → lv_has ls 4 [(0, .ref a0), (1, .int p1), (2, .int x14), (3, .int z4)] → W p l e rm_M_breaks s m args below meth c H locs 0 0 Q (F0 m 41 ls []) := by
            intro x14 w H locs ls h hI hl
            have h := gk2 eK41 h
            refine lv_iinc (v := z4 + 1) (lv' := [(3, .int (z4 + 1)), (0, .ref a0), (1, .int p1), (2, .int x14)]) hx hb d_M_breaks_41 hl (k := 3) rfl rfl (by decide) rfl (fun ls hl => ?_)
            refine lv_goto (tgt := 9) hx hb d_M_breaks_44 (by decide) ?_
            exact ih _ _ w H locs ls h hI (lv_sub hl [1, 2, 3, 0] rfl)
          refine lv_if_ne (tgt := 32) hx hb d_M_breaks_26 (by decide) (fun c15 => ?_) (fun c15 => ?_)
          · skip
            have h := gie c15 h
            refine lv_iload_n hx hb d_M_breaks_32 rfl (lv_at hl 2 rfl) ?_
            refine lv_if_ne (tgt := 38) hx hb d_M_breaks_33 (by decide) (fun c16 => ?_) (fun c16 => ?_)
            · skip
              have h := gie c16 h
              refine lv_iinc (v := z3 + (-1)) (lv' := [(2, .int (z3 + (-1))), (0, .ref a0), (1, .int p1), (3, .int z4)]) hx hb d_M_breaks_38 hl (k := 2) rfl rfl (by decide) rfl (fun ls hl => ?_)
              exact hK41 _ w H locs ls h hI (lv_sub hl [1, 2, 0, 3] rfl)
            · skip
              have h := git c16 h
              exact hK36 _ w H locs ls h hI (lv_sub hl [3] rfl)
          · skip
            have h := git c15 h
            refine lv_goto (tgt := 41) hx hb d_M_breaks_29 (by decide) ?_
            exact hK41 _ w H locs ls h hI (lv_sub hl [0, 1, 2, 3] rfl)
  exact hL9 64 _ _ w H locs ls h hI (lv_sub hl [2, 3, 1, 0] rfl)

abbrev b_M_meet : ByteArray := prog_9_method_52_code
def y_M_meet : MethodName := ⟨"BodySolidsModel", "meet", "(II)I"⟩
theorem d_M_meet_0 : decode b_M_meet 0 = .ok (.iconst 0, 1) := by decide +kernel
theorem d_M_meet_1 : decode b_M_meet 1 = .ok (.istore_n 3, 1) := by decide +kernel
theorem d_M_meet_2 : decode b_M_meet 2 = .ok (.iconst 0, 1) := by decide +kernel
theorem d_M_meet_3 : decode b_M_meet 3 = .ok (.istore 4, 2) := by decide +kernel
theorem d_M_meet_5 : decode b_M_meet 5 = .ok (.iload 4, 2) := by decide +kernel
theorem d_M_meet_7 : decode b_M_meet 7 = .ok (.aload_n 0, 1) := by decide +kernel
theorem d_M_meet_8 : decode b_M_meet 8 = .ok (.getfield 7, 3) := by decide +kernel
theorem d_M_meet_11 : decode b_M_meet 11 = .ok (.aload_n 0, 1) := by decide +kernel
theorem d_M_meet_12 : decode b_M_meet 12 = .ok (.getfield 35, 3) := by decide +kernel
theorem d_M_meet_15 : decode b_M_meet 15 = .ok (.iload_n 1, 1) := by decide +kernel
theorem d_M_meet_16 : decode b_M_meet 16 = .ok (.iaload, 1) := by decide +kernel
theorem d_M_meet_17 : decode b_M_meet 17 = .ok (.iaload, 1) := by decide +kernel
theorem d_M_meet_18 : decode b_M_meet 18 = .ok (.if_icmp .ge 99, 3) := by decide +kernel
theorem d_M_meet_21 : decode b_M_meet 21 = .ok (.iload_n 3, 1) := by decide +kernel
theorem d_M_meet_22 : decode b_M_meet 22 = .ok (.iconst 2, 1) := by decide +kernel
theorem d_M_meet_23 : decode b_M_meet 23 = .ok (.if_icmp .ge 94, 3) := by decide +kernel
theorem d_M_meet_26 : decode b_M_meet 26 = .ok (.iconst 0, 1) := by decide +kernel
theorem d_M_meet_27 : decode b_M_meet 27 = .ok (.istore 5, 2) := by decide +kernel
theorem d_M_meet_29 : decode b_M_meet 29 = .ok (.iload 5, 2) := by decide +kernel
theorem d_M_meet_31 : decode b_M_meet 31 = .ok (.aload_n 0, 1) := by decide +kernel
theorem d_M_meet_32 : decode b_M_meet 32 = .ok (.getfield 7, 3) := by decide +kernel
theorem d_M_meet_35 : decode b_M_meet 35 = .ok (.aload_n 0, 1) := by decide +kernel
theorem d_M_meet_36 : decode b_M_meet 36 = .ok (.getfield 35, 3) := by decide +kernel
theorem d_M_meet_39 : decode b_M_meet 39 = .ok (.iload_n 2, 1) := by decide +kernel
theorem d_M_meet_40 : decode b_M_meet 40 = .ok (.iaload, 1) := by decide +kernel
theorem d_M_meet_41 : decode b_M_meet 41 = .ok (.iaload, 1) := by decide +kernel
theorem d_M_meet_42 : decode b_M_meet 42 = .ok (.if_icmp .ge 69, 3) := by decide +kernel
theorem d_M_meet_45 : decode b_M_meet 45 = .ok (.iload_n 3, 1) := by decide +kernel
theorem d_M_meet_46 : decode b_M_meet 46 = .ok (.iconst 2, 1) := by decide +kernel
theorem d_M_meet_47 : decode b_M_meet 47 = .ok (.if_icmp .ge 64, 3) := by decide +kernel
theorem d_M_meet_50 : decode b_M_meet 50 = .ok (.aload_n 0, 1) := by decide +kernel
theorem d_M_meet_51 : decode b_M_meet 51 = .ok (.iconst 0, 1) := by decide +kernel
theorem d_M_meet_52 : decode b_M_meet 52 = .ok (.iload_n 1, 1) := by decide +kernel
theorem d_M_meet_53 : decode b_M_meet 53 = .ok (.bipush 12, 2) := by decide +kernel
theorem d_M_meet_55 : decode b_M_meet 55 = .ok (.aload_n 0, 1) := by decide +kernel
theorem d_M_meet_56 : decode b_M_meet 56 = .ok (.getfield 35, 3) := by decide +kernel
theorem d_M_meet_59 : decode b_M_meet 59 = .ok (.iload_n 1, 1) := by decide +kernel
theorem d_M_meet_60 : decode b_M_meet 60 = .ok (.iaload, 1) := by decide +kernel
theorem d_M_meet_61 : decode b_M_meet 61 = .ok (.imul, 1) := by decide +kernel
theorem d_M_meet_62 : decode b_M_meet 62 = .ok (.iload 4, 2) := by decide +kernel
theorem d_M_meet_64 : decode b_M_meet 64 = .ok (.iadd, 1) := by decide +kernel
theorem d_M_meet_65 : decode b_M_meet 65 = .ok (.invokevirtual 252, 3) := by decide +kernel
theorem d_M_meet_68 : decode b_M_meet 68 = .ok (.aload_n 0, 1) := by decide +kernel
theorem d_M_meet_69 : decode b_M_meet 69 = .ok (.iconst 1, 1) := by decide +kernel
theorem d_M_meet_70 : decode b_M_meet 70 = .ok (.iload_n 2, 1) := by decide +kernel
theorem d_M_meet_71 : decode b_M_meet 71 = .ok (.bipush 12, 2) := by decide +kernel
theorem d_M_meet_73 : decode b_M_meet 73 = .ok (.aload_n 0, 1) := by decide +kernel
theorem d_M_meet_74 : decode b_M_meet 74 = .ok (.getfield 35, 3) := by decide +kernel
theorem d_M_meet_77 : decode b_M_meet 77 = .ok (.iload_n 2, 1) := by decide +kernel
theorem d_M_meet_78 : decode b_M_meet 78 = .ok (.iaload, 1) := by decide +kernel
theorem d_M_meet_79 : decode b_M_meet 79 = .ok (.imul, 1) := by decide +kernel
theorem d_M_meet_80 : decode b_M_meet 80 = .ok (.iload 5, 2) := by decide +kernel
theorem d_M_meet_82 : decode b_M_meet 82 = .ok (.iadd, 1) := by decide +kernel
theorem d_M_meet_83 : decode b_M_meet 83 = .ok (.invokevirtual 252, 3) := by decide +kernel
theorem d_M_meet_86 : decode b_M_meet 86 = .ok (.aload_n 0, 1) := by decide +kernel
theorem d_M_meet_87 : decode b_M_meet 87 = .ok (.invokevirtual 256, 3) := by decide +kernel
theorem d_M_meet_90 : decode b_M_meet 90 = .ok (.istore 6, 2) := by decide +kernel
theorem d_M_meet_92 : decode b_M_meet 92 = .ok (.iload 6, 2) := by decide +kernel
theorem d_M_meet_94 : decode b_M_meet 94 = .ok (.iload_n 3, 1) := by decide +kernel
theorem d_M_meet_95 : decode b_M_meet 95 = .ok (.if_icmp .le 8, 3) := by decide +kernel
theorem d_M_meet_98 : decode b_M_meet 98 = .ok (.iload 6, 2) := by decide +kernel
theorem d_M_meet_100 : decode b_M_meet 100 = .ok (.goto 4, 3) := by decide +kernel
theorem d_M_meet_103 : decode b_M_meet 103 = .ok (.iload_n 3, 1) := by decide +kernel
theorem d_M_meet_104 : decode b_M_meet 104 = .ok (.istore_n 3, 1) := by decide +kernel
theorem d_M_meet_105 : decode b_M_meet 105 = .ok (.iinc 5 1, 3) := by decide +kernel
theorem d_M_meet_108 : decode b_M_meet 108 = .ok (.goto (-79), 3) := by decide +kernel
theorem d_M_meet_111 : decode b_M_meet 111 = .ok (.iinc 4 1, 3) := by decide +kernel
theorem d_M_meet_114 : decode b_M_meet 114 = .ok (.goto (-109), 3) := by decide +kernel
theorem d_M_meet_117 : decode b_M_meet 117 = .ok (.iload_n 3, 1) := by decide +kernel
theorem d_M_meet_118 : decode b_M_meet 118 = .ok (.ireturn, 1) := by decide +kernel
abbrev rm_M_meet : Room := { frames := 5, cells := 0, slots := 0, locals := 163 }
theorem ce_M_meet : gCe y_M_meet (.code y_M_meet b_M_meet 7 (some .int)) 7 2 false := gCe.code wd_966 wd_57 wd_965 (by decide) (by decide +kernel)
def f_M_meet_L29 (g0 : gG) (c0 : Nat) (c1 : Int32) (c2 : Int32) (c4 : Int32) (K111 : Int32 → gW → gX Int32) : Nat → Int32 → Int32 → gW → gX Int32
  | 0, _, _, _ => none
  | n + 1, z3, z5, w => (gfA w c0 7 3).bind fun v13 => (gfA w c0 7 13).bind fun v15 => (gaI w v15 c2).bind fun v17 => (gaI w v13 v17).bind fun v19 => if v19 ≤ z5 then (K111 z3 w) else (if 2 ≤ z3 then (K111 z3 w) else ((gfA w c0 7 13).bind fun v23 => (gaI w v23 c1).bind fun v25 => (gck w c0 7).bind fun _ => gbind (f_M_lay g0 c0 0 c1 ((12 * v25) + c4) w) fun v31 w => (gfA w c0 7 13).bind fun v32 => (gaI w v32 c2).bind fun v34 => (gck w c0 7).bind fun _ => gbind (f_M_lay g0 c0 1 c2 ((12 * v34) + z5) w) fun v40 w => (gck w c0 7).bind fun _ => gbind (f_M_both g0 c0 w) fun v45 w => gjoin (fun K104 => if v45 ≤ z3 then (K104 z3 w) else (K104 v45 w)) (fun (y46 : Int32) (w : gW) => f_M_meet_L29 g0 c0 c1 c2 c4 K111 n y46 (z5 + 1) w)))
def f_M_meet_L5 (g0 : gG) (c0 : Nat) (c1 : Int32) (c2 : Int32) (K117 : Int32 → gW → gX Int32) : Nat → Int32 → Int32 → gW → gX Int32
  | 0, _, _, _ => none
  | n + 1, z3, z4, w => (gfA w c0 7 3).bind fun v2 => (gfA w c0 7 13).bind fun v4 => (gaI w v4 c1).bind fun v6 => (gaI w v2 v6).bind fun v8 => if v8 ≤ z4 then (K117 z3 w) else (if 2 ≤ z3 then (K117 z3 w) else (gjoin (fun K111 => f_M_meet_L29 g0 c0 c1 c2 z4 K111 64 z3 0 w) (fun (x12 : Int32) (w : gW) => f_M_meet_L5 g0 c0 c1 c2 K117 n x12 (z4 + 1) w)))
def f_M_meet (g0 : gG) (a0 : Nat) (p1 : Int32) (p2 : Int32) (w : gW) : gX Int32 := gjoin (fun K117 => f_M_meet_L5 g0 a0 p1 p2 K117 64 0 0 w) (fun (x1 : Int32) (w : gW) => some (.inr x1, w))
set_option maxHeartbeats 4000000 in
set_option maxRecDepth 100000 in
theorem m_M_meet (l : Launch) (hst : l.stackTraces = false) (D : gD) (g0 : gG) (a0 : Nat) (p1 : Int32) (p2 : Int32) (w : gW) (r : (String ⊕ Int32) × gW) (h : f_M_meet g0 a0 p1 p2 w = some r) : gMet l y_M_meet (.code y_M_meet b_M_meet 7 (some .int)) rm_M_meet D g0 [.ref a0, .int p1, .int p2] w (goI r) := by
  refine gw_ofI (by decide +kernel) (Nat.le_of_ble_eq_true rfl) ?_
  intro p e s m below meth c ls args A Q hx hb hml hown hlocks hin hnt hT hK hZ hA hret hexc hthr hI hl
  obtain ⟨H, hH⟩ : ∃ H, H = s.heap := ⟨_, rfl⟩
  rw [← hH] at hI ⊢
  obtain ⟨locs, hlocs⟩ : ∃ z : List Loc, z = [] := ⟨_, rfl⟩
  rw [← hlocs] at hI ⊢
  have hl : lv_has ls 7 [(0, .ref a0), (1, .int p1), (2, .int p2)] := hl
  unfold f_M_meet at h
  refine lv_iconst (v := 0) hx hb d_M_meet_0 (by decide) ?_
  refine lv_istore_n (lv' := [(3, .int 0), (0, .ref a0), (1, .int p1), (2, .int p2)]) hx hb d_M_meet_1 rfl hl (by decide) rfl (fun ls hl => ?_)
  refine lv_iconst (v := 0) hx hb d_M_meet_2 (by decide) ?_
  refine lv_istore (lv' := [(4, .int 0), (3, .int 0), (0, .ref a0), (1, .int p1), (2, .int p2)]) hx hb d_M_meet_3 hl (by decide) rfl (fun ls hl => ?_)
  obtain ⟨K117, eK117, h⟩ := gj h
  have hK117 : ∀ (x1 : Int32) (w : gW) (H : Heap) (locs : List Loc) (ls : Array Slot), K117 x1 w = some r → gI D s A w H locs → lv_has ls 7 [(3, .int x1)] → W p l e rm_M_meet s m args below meth c H locs 0 0 Q (F0 m 117 ls []) := by
    intro x1 w H locs ls h hI hl
    have h := gk2 eK117 h
    refine lv_iload_n hx hb d_M_meet_117 rfl (lv_at hl 0 rfl) ?_
    exact W.widen (show 0 ≤ 0 by omega) (show 0 ≤ 0 by omega) (hret _ _ (Option.some.inj h).symm _ _ _ _ d_M_meet_118 hI)
  have hL5 : ∀ (n : Nat), ∀ (z2 : Int32) (z3 : Int32) (w : gW) (H : Heap) (locs : List Loc) (ls : Array Slot), f_M_meet_L5 g0 a0 p1 p2 K117 n z2 z3 w = some r → gI D s A w H locs → lv_has ls 7 [(0, .ref a0), (1, .int p1), (2, .int p2), (3, .int z2), (4, .int z3)] → W p l e rm_M_meet s m args below meth c H locs 0 0 Q (F0 m 5 ls []) := by
    intro n
    induction n with
    | zero => intro z2 z3 w H locs ls h hI hl; exact absurd h (by simp [f_M_meet_L5])
    | succ n ih =>
      intro z2 z3 w H locs ls h hI hl
      rw [f_M_meet_L5] at h
      refine lv_iload hx hb d_M_meet_5 (lv_at hl 4 rfl) ?_
      refine lv_aload_n hx hb d_M_meet_7 rfl (lv_at hl 0 rfl) ?_
      obtain ⟨v4, e5, h⟩ := gb h
      refine gw_getA hx hb hT hown hK hI (ci := 7) rfl i_7 3 (by decide) wd_789 (fun _ h9 => h9) e5 d_M_meet_8 ?_
      refine lv_aload_n hx hb d_M_meet_11 rfl (lv_at hl 0 rfl) ?_
      obtain ⟨v6, e7, h⟩ := gb h
      refine gw_getA hx hb hT hown hK hI (ci := 7) rfl i_7 13 (by decide) wd_799 (fun _ h9 => h9) e7 d_M_meet_12 ?_
      refine lv_iload_n hx hb d_M_meet_15 rfl (lv_at hl 1 rfl) ?_
      obtain ⟨v8, e9, h⟩ := gb h
      refine gw_aldI hx hb hK hI e9 d_M_meet_16 ?_
      obtain ⟨v10, e11, h⟩ := gb h
      refine gw_aldI hx hb hK hI e11 d_M_meet_17 ?_
      refine lv_icmp_ge (tgt := 117) hx hb d_M_meet_18 (by decide) (fun c12 => ?_) (fun c12 => ?_)
      · skip
        have h := git c12 h
        exact hK117 _ w H locs ls h hI (lv_sub hl [3] rfl)
      · skip
        have h := gie c12 h
        refine lv_iload_n hx hb d_M_meet_21 rfl (lv_at hl 3 rfl) ?_
        refine lv_iconst (v := 2) hx hb d_M_meet_22 (by decide) ?_
        refine lv_icmp_ge (tgt := 117) hx hb d_M_meet_23 (by decide) (fun c13 => ?_) (fun c13 => ?_)
        · skip
          have h := git c13 h
          exact hK117 _ w H locs ls h hI (lv_sub hl [3] rfl)
        · skip
          have h := gie c13 h
          refine lv_iconst (v := 0) hx hb d_M_meet_26 (by decide) ?_
          refine lv_istore (lv' := [(5, .int 0), (0, .ref a0), (1, .int p1), (2, .int p2), (3, .int z2), (4, .int z3)]) hx hb d_M_meet_27 hl (by decide) rfl (fun ls hl => ?_)
          obtain ⟨K111, eK111, h⟩ := gj h
          have hK111 : ∀ (x14 : Int32) (w : gW) (H : Heap) (locs : List Loc) (ls : Array Slot), K111 x14 w = some r → gI D s A w H locs → lv_has ls 7 [(0, .ref a0), (1, .int p1), (2, .int p2), (3, .int x14), (4, .int z3)] → W p l e rm_M_meet s m args below meth c H locs 0 0 Q (F0 m 111 ls []) := by
            intro x14 w H locs ls h hI hl
            have h := gk2 eK111 h
            refine lv_iinc (v := z3 + 1) (lv' := [(4, .int (z3 + 1)), (0, .ref a0), (1, .int p1), (2, .int p2), (3, .int x14)]) hx hb d_M_meet_111 hl (k := 4) rfl rfl (by decide) rfl (fun ls hl => ?_)
            refine lv_goto (tgt := 5) hx hb d_M_meet_114 (by decide) ?_
            exact ih _ _ w H locs ls h hI (lv_sub hl [1, 2, 3, 4, 0] rfl)
          have hL29 : ∀ (n : Nat), ∀ (z15 : Int32) (z16 : Int32) (w : gW) (H : Heap) (locs : List Loc) (ls : Array Slot), f_M_meet_L29 g0 a0 p1 p2 z3 K111 n z15 z16 w = some r → gI D s A w H locs → lv_has ls 7 [(0, .ref a0), (1, .int p1), (2, .int p2), (4, .int z3), (3, .int z15), (5, .int z16)] → W p l e rm_M_meet s m args below meth c H locs 0 0 Q (F0 m 29 ls []) := by
            intro n
            induction n with
            | zero => intro z15 z16 w H locs ls h hI hl; exact absurd h (by simp [f_M_meet_L29])
            | succ n ih =>
              intro z15 z16 w H locs ls h hI hl
              rw [f_M_meet_L29] at h
              refine lv_iload hx hb d_M_meet_29 (lv_at hl 5 rfl) ?_
              refine lv_aload_n hx hb d_M_meet_31 rfl (lv_at hl 0 rfl) ?_
              obtain ⟨v17, e18, h⟩ := gb h
              refine gw_getA hx hb hT hown hK hI (ci := 7) rfl i_7 3 (by decide) wd_789 (fun _ h9 => h9) e18 d_M_meet_32 ?_
              refine lv_aload_n hx hb d_M_meet_35 rfl (lv_at hl 0 rfl) ?_
              obtain ⟨v19, e20, h⟩ := gb h
              refine gw_getA hx hb hT hown hK hI (ci := 7) rfl i_7 13 (by decide) wd_799 (fun _ h9 => h9) e20 d_M_meet_36 ?_
              refine lv_iload_n hx hb d_M_meet_39 rfl (lv_at hl 2 rfl) ?_
              obtain ⟨v21, e22, h⟩ := gb h
              refine gw_aldI hx hb hK hI e22 d_M_meet_40 ?_
              obtain ⟨v23, e24, h⟩ := gb h
              refine gw_aldI hx hb hK hI e24 d_M_meet_41 ?_
              refine lv_icmp_ge (tgt := 111) hx hb d_M_meet_42 (by decide) (fun c25 => ?_) (fun c25 => ?_)
              · skip
                have h := git c25 h
                exact hK111 _ w H locs ls h hI (lv_sub hl [0, 1, 2, 4, 3] rfl)
              · skip
                have h := gie c25 h
                refine lv_iload_n hx hb d_M_meet_45 rfl (lv_at hl 4 rfl) ?_
                refine lv_iconst (v := 2) hx hb d_M_meet_46 (by decide) ?_
                refine lv_icmp_ge (tgt := 111) hx hb d_M_meet_47 (by decide) (fun c26 => ?_) (fun c26 => ?_)
                · skip
                  have h := git c26 h
                  exact hK111 _ w H locs ls h hI (lv_sub hl [0, 1, 2, 4, 3] rfl)
                · skip
                  have h := gie c26 h
                  refine lv_aload_n hx hb d_M_meet_50 rfl (lv_at hl 0 rfl) ?_
                  refine lv_iconst (v := 0) hx hb d_M_meet_51 (by decide) ?_
                  refine lv_iload_n hx hb d_M_meet_52 rfl (lv_at hl 1 rfl) ?_
                  refine lv_bipush (v := 12) hx hb d_M_meet_53 (by decide) ?_
                  refine lv_aload_n hx hb d_M_meet_55 rfl (lv_at hl 0 rfl) ?_
                  obtain ⟨v27, e28, h⟩ := gb h
                  refine gw_getA hx hb hT hown hK hI (ci := 7) rfl i_7 13 (by decide) wd_799 (fun _ h9 => h9) e28 d_M_meet_56 ?_
                  refine lv_iload_n hx hb d_M_meet_59 rfl (lv_at hl 1 rfl) ?_
                  obtain ⟨v29, e30, h⟩ := gb h
                  refine gw_aldI hx hb hK hI e30 d_M_meet_60 ?_
                  refine lv_imul hx hb d_M_meet_61 ?_
                  refine lv_iload hx hb d_M_meet_62 (lv_at hl 3 rfl) ?_
                  refine lv_iadd hx hb d_M_meet_64 ?_
                  obtain ⟨q33, e34, h⟩ := gb h
                  obtain ⟨u31, e32⟩ := gsome h
                  refine gw_callV e32 h (gw_runV (As := [.int 0, .int p1, .int ((12 * v29) + z3)]) (rest := []) hx hb hml hown hT hK hZ hA hI (ci := 7) rfl e34 (m_M_lay l hst D g0 a0 0 p1 ((12 * v29) + z3) w u31 e32) ce_M_lay wd_967 wd_25 ⟨by decide, by decide⟩ rfl rfl hl.1 rfl (lv_room (Nat.le_of_ble_eq_true rfl)) d_M_meet_65 ⟨(show 0 + 0 ≤ 0 by omega), (show 0 + 0 ≤ 0 by omega)⟩) hI hA hexc (show 0 + 0 ≤ 0 by omega) (show 0 + 0 ≤ 0 by omega) (fun v35 w H locs h hI => ?_)
                  refine lv_aload_n hx hb d_M_meet_68 rfl (lv_at hl 0 rfl) ?_
                  refine lv_iconst (v := 1) hx hb d_M_meet_69 (by decide) ?_
                  refine lv_iload_n hx hb d_M_meet_70 rfl (lv_at hl 2 rfl) ?_
                  refine lv_bipush (v := 12) hx hb d_M_meet_71 (by decide) ?_
                  refine lv_aload_n hx hb d_M_meet_73 rfl (lv_at hl 0 rfl) ?_
                  obtain ⟨v36, e37, h⟩ := gb h
                  refine gw_getA hx hb hT hown hK hI (ci := 7) rfl i_7 13 (by decide) wd_799 (fun _ h9 => h9) e37 d_M_meet_74 ?_
                  refine lv_iload_n hx hb d_M_meet_77 rfl (lv_at hl 2 rfl) ?_
                  obtain ⟨v38, e39, h⟩ := gb h
                  refine gw_aldI hx hb hK hI e39 d_M_meet_78 ?_
                  refine lv_imul hx hb d_M_meet_79 ?_
                  refine lv_iload hx hb d_M_meet_80 (lv_at hl 5 rfl) ?_
                  refine lv_iadd hx hb d_M_meet_82 ?_
                  obtain ⟨q42, e43, h⟩ := gb h
                  obtain ⟨u40, e41⟩ := gsome h
                  refine gw_callV e41 h (gw_runV (As := [.int 1, .int p2, .int ((12 * v38) + z16)]) (rest := []) hx hb hml hown hT hK hZ hA hI (ci := 7) rfl e43 (m_M_lay l hst D g0 a0 1 p2 ((12 * v38) + z16) w u40 e41) ce_M_lay wd_967 wd_25 ⟨by decide, by decide⟩ rfl rfl hl.1 rfl (lv_room (Nat.le_of_ble_eq_true rfl)) d_M_meet_83 ⟨(show 0 + 0 ≤ 0 by omega), (show 0 + 0 ≤ 0 by omega)⟩) hI hA hexc (show 0 + 0 ≤ 0 by omega) (show 0 + 0 ≤ 0 by omega) (fun v44 w H locs h hI => ?_)
                  refine lv_aload_n hx hb d_M_meet_86 rfl (lv_at hl 0 rfl) ?_
                  obtain ⟨q47, e48, h⟩ := gb h
                  obtain ⟨u45, e46⟩ := gsome h
                  refine gw_callI e46 h (gw_runV (As := []) (rest := []) hx hb hml hown hT hK hZ hA hI (ci := 7) rfl e48 (m_M_both l hst D g0 a0 w u45 e46) ce_M_both wd_1000 wd_33 ⟨by decide, by decide⟩ rfl rfl hl.1 rfl (lv_room (Nat.le_of_ble_eq_true rfl)) d_M_meet_87 ⟨(show 0 + 0 ≤ 0 by omega), (show 0 + 0 ≤ 0 by omega)⟩) hI hA hexc (show 0 + 0 ≤ 0 by omega) (show 0 + 0 ≤ 0 by omega) (fun v49 w H locs h hI => ?_)
                  refine lv_istore (lv' := [(6, .int v49), (0, .ref a0), (1, .int p1), (2, .int p2), (4, .int z3), (3, .int z15), (5, .int z16)]) hx hb d_M_meet_90 hl (by decide) rfl (fun ls hl => ?_)
                  refine lv_iload hx hb d_M_meet_92 (lv_at hl 0 rfl) ?_
                  refine lv_iload_n hx hb d_M_meet_94 rfl (lv_at hl 5 rfl) ?_
                  obtain ⟨K104, eK104, h⟩ := gj h
                  have hK104 : ∀ (y50 : Int32) (w : gW) (H : Heap) (locs : List Loc) (ls : Array Slot), K104 y50 w = some r → gI D s A w H locs → lv_has ls 7 [(0, .ref a0), (1, .int p1), (2, .int p2), (4, .int z3), (5, .int z16)] → W p l e rm_M_meet s m args below meth c H locs 0 0 Q (F0 m 104 ls [.int y50]) := by
                    intro y50 w H locs ls h hI hl
                    have h := gk2 eK104 h
                    refine lv_istore_n (lv' := [(3, .int y50), (0, .ref a0), (1, .int p1), (2, .int p2), (4, .int z3), (5, .int z16)]) hx hb d_M_meet_104 rfl hl (by decide) rfl (fun ls hl => ?_)
                    refine lv_iinc (v := z16 + 1) (lv' := [(5, .int (z16 + 1)), (3, .int y50), (0, .ref a0), (1, .int p1), (2, .int p2), (4, .int z3)]) hx hb d_M_meet_105 hl (k := 5) rfl rfl (by decide) rfl (fun ls hl => ?_)
                    refine lv_goto (tgt := 29) hx hb d_M_meet_108 (by decide) ?_
                    exact ih _ _ w H locs ls h hI (lv_sub hl [2, 3, 4, 5, 1, 0] rfl)
                  refine lv_icmp_le (tgt := 103) hx hb d_M_meet_95 (by decide) (fun c51 => ?_) (fun c51 => ?_)
                  · skip
                    have h := git c51 h
                    refine lv_iload_n hx hb d_M_meet_103 rfl (lv_at hl 5 rfl) ?_
                    exact hK104 _ w H locs ls h hI (lv_sub hl [1, 2, 3, 4, 6] rfl)
                  · skip
                    have h := gie c51 h
                    refine lv_iload hx hb d_M_meet_98 (lv_at hl 0 rfl) ?_
                    refine lv_goto (tgt := 104) hx hb d_M_meet_100 (by decide) ?_
                    exact hK104 _ w H locs ls h hI (lv_sub hl [1, 2, 3, 4, 6] rfl)
          exact hL29 64 _ _ w H locs ls h hI (lv_sub hl [1, 2, 3, 5, 4, 0] rfl)
  exact hL5 64 _ _ w H locs ls h hI (lv_sub hl [2, 3, 4, 1, 0] rfl)

abbrev b_M_clash : ByteArray := prog_9_method_53_code
def y_M_clash : MethodName := ⟨"BodySolidsModel", "clash", "(II)I"⟩
theorem d_M_clash_0 : decode b_M_clash 0 = .ok (.aload_n 0, 1) := by decide +kernel
theorem d_M_clash_1 : decode b_M_clash 1 = .ok (.aload_n 0, 1) := by decide +kernel
theorem d_M_clash_2 : decode b_M_clash 2 = .ok (.iload_n 1, 1) := by decide +kernel
theorem d_M_clash_3 : decode b_M_clash 3 = .ok (.invokevirtual 150, 3) := by decide +kernel
theorem d_M_clash_6 : decode b_M_clash 6 = .ok (.ifCond .eq 15, 3) := by decide +kernel
theorem d_M_clash_9 : decode b_M_clash 9 = .ok (.aload_n 0, 1) := by decide +kernel
theorem d_M_clash_10 : decode b_M_clash 10 = .ok (.iload_n 2, 1) := by decide +kernel
theorem d_M_clash_11 : decode b_M_clash 11 = .ok (.invokevirtual 150, 3) := by decide +kernel
theorem d_M_clash_14 : decode b_M_clash 14 = .ok (.ifCond .eq 7, 3) := by decide +kernel
theorem d_M_clash_17 : decode b_M_clash 17 = .ok (.iconst 0, 1) := by decide +kernel
theorem d_M_clash_18 : decode b_M_clash 18 = .ok (.goto 4, 3) := by decide +kernel
theorem d_M_clash_21 : decode b_M_clash 21 = .ok (.iconst 1, 1) := by decide +kernel
theorem d_M_clash_22 : decode b_M_clash 22 = .ok (.putfield 80, 3) := by decide +kernel
theorem d_M_clash_25 : decode b_M_clash 25 = .ok (.aload_n 0, 1) := by decide +kernel
theorem d_M_clash_26 : decode b_M_clash 26 = .ok (.getfield 80, 3) := by decide +kernel
theorem d_M_clash_29 : decode b_M_clash 29 = .ok (.ifCond .ne 8, 3) := by decide +kernel
theorem d_M_clash_32 : decode b_M_clash 32 = .ok (.iload_n 1, 1) := by decide +kernel
theorem d_M_clash_33 : decode b_M_clash 33 = .ok (.iload_n 2, 1) := by decide +kernel
theorem d_M_clash_34 : decode b_M_clash 34 = .ok (.if_icmp .ne 5, 3) := by decide +kernel
theorem d_M_clash_37 : decode b_M_clash 37 = .ok (.iconst 0, 1) := by decide +kernel
theorem d_M_clash_38 : decode b_M_clash 38 = .ok (.ireturn, 1) := by decide +kernel
theorem d_M_clash_39 : decode b_M_clash 39 = .ok (.aload_n 0, 1) := by decide +kernel
theorem d_M_clash_40 : decode b_M_clash 40 = .ok (.iload_n 1, 1) := by decide +kernel
theorem d_M_clash_41 : decode b_M_clash 41 = .ok (.iload_n 2, 1) := by decide +kernel
theorem d_M_clash_42 : decode b_M_clash 42 = .ok (.invokevirtual 259, 3) := by decide +kernel
theorem d_M_clash_45 : decode b_M_clash 45 = .ok (.istore_n 3, 1) := by decide +kernel
theorem d_M_clash_46 : decode b_M_clash 46 = .ok (.iload_n 3, 1) := by decide +kernel
theorem d_M_clash_47 : decode b_M_clash 47 = .ok (.iconst 2, 1) := by decide +kernel
theorem d_M_clash_48 : decode b_M_clash 48 = .ok (.if_icmp .ne 7, 3) := by decide +kernel
theorem d_M_clash_51 : decode b_M_clash 51 = .ok (.iconst 1, 1) := by decide +kernel
theorem d_M_clash_52 : decode b_M_clash 52 = .ok (.goto 13, 3) := by decide +kernel
theorem d_M_clash_55 : decode b_M_clash 55 = .ok (.iload_n 3, 1) := by decide +kernel
theorem d_M_clash_56 : decode b_M_clash 56 = .ok (.iconst 1, 1) := by decide +kernel
theorem d_M_clash_57 : decode b_M_clash 57 = .ok (.if_icmp .ne 7, 3) := by decide +kernel
theorem d_M_clash_60 : decode b_M_clash 60 = .ok (.iconst 2, 1) := by decide +kernel
theorem d_M_clash_61 : decode b_M_clash 61 = .ok (.goto 4, 3) := by decide +kernel
theorem d_M_clash_64 : decode b_M_clash 64 = .ok (.iconst 0, 1) := by decide +kernel
theorem d_M_clash_65 : decode b_M_clash 65 = .ok (.ireturn, 1) := by decide +kernel
abbrev rm_M_clash : Room := { frames := 6, cells := 0, slots := 0, locals := 189 }
theorem ce_M_clash : gCe y_M_clash (.code y_M_clash b_M_clash 4 (some .int)) 4 2 false := gCe.code wd_962 wd_57 wd_960 (by decide) (by decide +kernel)
def f_M_clash (g0 : gG) (a0 : Nat) (p1 : Int32) (p2 : Int32) (w : gW) : gX Int32 := (gck w a0 7).bind fun _ => gbind (f_M_isPlaced g0 a0 p1 w) fun v5 w => gjoin (fun K22 => gjoin (fun K21 => if v5 = 0 then (K21 w) else ((gck w a0 7).bind fun _ => gbind (f_M_isPlaced g0 a0 p2 w) fun v25 w => if v25 = 0 then (K21 w) else (K22 0 w))) (fun (w : gW) => K22 1 w)) (fun (y6 : Int32) (w : gW) => (gp w a0 7 0 (.int y6)).bind fun w => (gfI w a0 7 0).bind fun v8 => gjoin (fun K37 => if v8 = 0 then (if p1 = p2 then (K37 w) else ((gck w a0 7).bind fun _ => gbind (f_M_meet g0 a0 p1 p2 w) fun v16 w => gjoin (fun K65 => if v16 = 2 then (K65 1 w) else (if v16 = 1 then (K65 2 w) else (K65 0 w))) (fun (y17 : Int32) (w : gW) => some (.inr y17, w)))) else (K37 w)) (fun (w : gW) => some (.inr 0, w)))
set_option maxHeartbeats 4000000 in
set_option maxRecDepth 100000 in
theorem m_M_clash (l : Launch) (hst : l.stackTraces = false) (D : gD) (g0 : gG) (a0 : Nat) (p1 : Int32) (p2 : Int32) (w : gW) (r : (String ⊕ Int32) × gW) (h : f_M_clash g0 a0 p1 p2 w = some r) : gMet l y_M_clash (.code y_M_clash b_M_clash 4 (some .int)) rm_M_clash D g0 [.ref a0, .int p1, .int p2] w (goI r) := by
  refine gw_ofI (by decide +kernel) (Nat.le_of_ble_eq_true rfl) ?_
  intro p e s m below meth c ls args A Q hx hb hml hown hlocks hin hnt hT hK hZ hA hret hexc hthr hI hl
  obtain ⟨H, hH⟩ : ∃ H, H = s.heap := ⟨_, rfl⟩
  rw [← hH] at hI ⊢
  obtain ⟨locs, hlocs⟩ : ∃ z : List Loc, z = [] := ⟨_, rfl⟩
  rw [← hlocs] at hI ⊢
  have hl : lv_has ls 4 [(0, .ref a0), (1, .int p1), (2, .int p2)] := hl
  unfold f_M_clash at h
  refine lv_aload_n hx hb d_M_clash_0 rfl (lv_at hl 0 rfl) ?_
  refine lv_aload_n hx hb d_M_clash_1 rfl (lv_at hl 0 rfl) ?_
  refine lv_iload_n hx hb d_M_clash_2 rfl (lv_at hl 1 rfl) ?_
  obtain ⟨q3, e4, h⟩ := gb h
  obtain ⟨u1, e2⟩ := gsome h
  refine gw_callI e2 h (gw_runV (As := [.int p1]) (rest := [.ref a0]) hx hb hml hown hT hK hZ hA hI (ci := 7) rfl e4 (m_M_isPlaced l hst D g0 a0 p1 w u1 e2) ce_M_isPlaced wd_955 wd_23 ⟨by decide, by decide⟩ rfl rfl hl.1 rfl (lv_room (Nat.le_of_ble_eq_true rfl)) d_M_clash_3 ⟨(show 0 + 0 ≤ 0 by omega), (show 0 + 0 ≤ 0 by omega)⟩) hI hA hexc (show 0 + 0 ≤ 0 by omega) (show 0 + 0 ≤ 0 by omega) (fun v5 w H locs h hI => ?_)
  obtain ⟨K22, eK22, h⟩ := gj h
  have hK22 : ∀ (y6 : Int32) (w : gW) (H : Heap) (locs : List Loc) (ls : Array Slot), K22 y6 w = some r → gI D s A w H locs → lv_has ls 4 [(0, .ref a0), (1, .int p1), (2, .int p2)] → W p l e rm_M_clash s m args below meth c H locs 0 0 Q (F0 m 22 ls [.int y6, .ref a0]) := by
    intro y6 w H locs ls h hI hl
    have h := gk2 eK22 h
    obtain ⟨w, e7, h⟩ := gb h
    refine gw_put hx hb hT hown hK hI (ci := 7) rfl i_7 t_7 t_7_ok n_7 0 (by decide) wd_786 (fun _ h9 => h9) rfl (ty := .int) (by decide +kernel) rfl rfl e7 d_M_clash_22 (fun H locs hI => ?_)
    refine lv_aload_n hx hb d_M_clash_25 rfl (lv_at hl 0 rfl) ?_
    obtain ⟨v8, e9, h⟩ := gb h
    refine gw_getI hx hb hT hown hK hI (ci := 7) rfl i_7 0 (by decide) wd_786 (fun _ h9 => h9) e9 d_M_clash_26 ?_
    obtain ⟨K37, eK37, h⟩ := gj h
    have hK37 : ∀ (w : gW) (H : Heap) (locs : List Loc) (ls : Array Slot), K37 w = some r → gI D s A w H locs → lv_has ls 4 [] → W p l e rm_M_clash s m args below meth c H locs 0 0 Q (F0 m 37 ls []) := by
      intro w H locs ls h hI hl
      have h := gk1 eK37 h
      refine lv_iconst (v := 0) hx hb d_M_clash_37 (by decide) ?_
      exact W.widen (show 0 ≤ 0 by omega) (show 0 ≤ 0 by omega) (hret _ _ (Option.some.inj h).symm _ _ _ _ d_M_clash_38 hI)
    refine lv_if_ne (tgt := 37) hx hb d_M_clash_29 (by decide) (fun c10 => ?_) (fun c10 => ?_)
    · skip
      have h := gie c10 h
      exact hK37 w H locs ls h hI (lv_sub hl [] rfl)
    · skip
      have h := git c10 h
      refine lv_iload_n hx hb d_M_clash_32 rfl (lv_at hl 1 rfl) ?_
      refine lv_iload_n hx hb d_M_clash_33 rfl (lv_at hl 2 rfl) ?_
      refine lv_icmp_ne (tgt := 39) hx hb d_M_clash_34 (by decide) (fun c11 => ?_) (fun c11 => ?_)
      · skip
        have h := gie c11 h
        refine lv_aload_n hx hb d_M_clash_39 rfl (lv_at hl 0 rfl) ?_
        refine lv_iload_n hx hb d_M_clash_40 rfl (lv_at hl 1 rfl) ?_
        refine lv_iload_n hx hb d_M_clash_41 rfl (lv_at hl 2 rfl) ?_
        obtain ⟨q14, e15, h⟩ := gb h
        obtain ⟨u12, e13⟩ := gsome h
        refine gw_callI e13 h (gw_runV (As := [.int p1, .int p2]) (rest := []) hx hb hml hown hT hK hZ hA hI (ci := 7) rfl e15 (m_M_meet l hst D g0 a0 p1 p2 w u12 e13) ce_M_meet wd_963 wd_24 ⟨by decide, by decide⟩ rfl rfl hl.1 rfl (lv_room (Nat.le_of_ble_eq_true rfl)) d_M_clash_42 ⟨(show 0 + 0 ≤ 0 by omega), (show 0 + 0 ≤ 0 by omega)⟩) hI hA hexc (show 0 + 0 ≤ 0 by omega) (show 0 + 0 ≤ 0 by omega) (fun v16 w H locs h hI => ?_)
        refine lv_istore_n (lv' := [(3, .int v16), (0, .ref a0), (1, .int p1), (2, .int p2)]) hx hb d_M_clash_45 rfl hl (by decide) rfl (fun ls hl => ?_)
        refine lv_iload_n hx hb d_M_clash_46 rfl (lv_at hl 0 rfl) ?_
        refine lv_iconst (v := 2) hx hb d_M_clash_47 (by decide) ?_
        obtain ⟨K65, eK65, h⟩ := gj h
        have hK65 : ∀ (y17 : Int32) (w : gW) (H : Heap) (locs : List Loc) (ls : Array Slot), K65 y17 w = some r → gI D s A w H locs → lv_has ls 4 [] → W p l e rm_M_clash s m args below meth c H locs 0 0 Q (F0 m 65 ls [.int y17]) := by
          intro y17 w H locs ls h hI hl
          have h := gk2 eK65 h
          exact W.widen (show 0 ≤ 0 by omega) (show 0 ≤ 0 by omega) (hret _ _ (Option.some.inj h).symm _ _ _ _ d_M_clash_65 hI)
        refine lv_icmp_ne (tgt := 55) hx hb d_M_clash_48 (by decide) (fun c18 => ?_) (fun c18 => ?_)
        · skip
          have h := gie c18 h
          refine lv_iload_n hx hb d_M_clash_55 rfl (lv_at hl 0 rfl) ?_
          refine lv_iconst (v := 1) hx hb d_M_clash_56 (by decide) ?_
          refine lv_icmp_ne (tgt := 64) hx hb d_M_clash_57 (by decide) (fun c19 => ?_) (fun c19 => ?_)
          · skip
            have h := gie c19 h
            refine lv_iconst (v := 0) hx hb d_M_clash_64 (by decide) ?_
            exact hK65 _ w H locs ls h hI (lv_sub hl [] rfl)
          · skip
            have h := git c19 h
            refine lv_iconst (v := 2) hx hb d_M_clash_60 (by decide) ?_
            refine lv_goto (tgt := 65) hx hb d_M_clash_61 (by decide) ?_
            exact hK65 _ w H locs ls h hI (lv_sub hl [] rfl)
        · skip
          have h := git c18 h
          refine lv_iconst (v := 1) hx hb d_M_clash_51 (by decide) ?_
          refine lv_goto (tgt := 65) hx hb d_M_clash_52 (by decide) ?_
          exact hK65 _ w H locs ls h hI (lv_sub hl [] rfl)
      · skip
        have h := git c11 h
        exact hK37 w H locs ls h hI (lv_sub hl [] rfl)
  obtain ⟨K21, eK21, h⟩ := gj h
  have hK21 : ∀ (w : gW) (H : Heap) (locs : List Loc) (ls : Array Slot), K21 w = some r → gI D s A w H locs → lv_has ls 4 [(0, .ref a0), (1, .int p1), (2, .int p2)] → W p l e rm_M_clash s m args below meth c H locs 0 0 Q (F0 m 21 ls [.ref a0]) := by
    intro w H locs ls h hI hl
    have h := gk1 eK21 h
    refine lv_iconst (v := 1) hx hb d_M_clash_21 (by decide) ?_
    exact hK22 _ w H locs ls h hI (lv_sub hl [0, 1, 2] rfl)
  refine lv_if_eq (tgt := 21) hx hb d_M_clash_6 (by decide) (fun c20 => ?_) (fun c20 => ?_)
  · skip
    have h := git c20 h
    exact hK21 w H locs ls h hI (lv_sub hl [0, 1, 2] rfl)
  · skip
    have h := gie c20 h
    refine lv_aload_n hx hb d_M_clash_9 rfl (lv_at hl 0 rfl) ?_
    refine lv_iload_n hx hb d_M_clash_10 rfl (lv_at hl 2 rfl) ?_
    obtain ⟨q23, e24, h⟩ := gb h
    obtain ⟨u21, e22⟩ := gsome h
    refine gw_callI e22 h (gw_runV (As := [.int p2]) (rest := [.ref a0]) hx hb hml hown hT hK hZ hA hI (ci := 7) rfl e24 (m_M_isPlaced l hst D g0 a0 p2 w u21 e22) ce_M_isPlaced wd_955 wd_23 ⟨by decide, by decide⟩ rfl rfl hl.1 rfl (lv_room (Nat.le_of_ble_eq_true rfl)) d_M_clash_11 ⟨(show 0 + 0 ≤ 0 by omega), (show 0 + 0 ≤ 0 by omega)⟩) hI hA hexc (show 0 + 0 ≤ 0 by omega) (show 0 + 0 ≤ 0 by omega) (fun v25 w H locs h hI => ?_)
    refine lv_if_eq (tgt := 21) hx hb d_M_clash_14 (by decide) (fun c26 => ?_) (fun c26 => ?_)
    · skip
      have h := git c26 h
      exact hK21 w H locs ls h hI (lv_sub hl [0, 1, 2] rfl)
    · skip
      have h := gie c26 h
      refine lv_iconst (v := 0) hx hb d_M_clash_17 (by decide) ?_
      refine lv_goto (tgt := 22) hx hb d_M_clash_18 (by decide) ?_
      exact hK22 _ w H locs ls h hI (lv_sub hl [0, 1, 2] rfl)

abbrev b_M_clashes : ByteArray := prog_9_method_54_code
def y_M_clashes : MethodName := ⟨"BodySolidsModel", "clashes", "()I"⟩
theorem d_M_clashes_0 : decode b_M_clashes 0 = .ok (.aload_n 0, 1) := by decide +kernel
theorem d_M_clashes_1 : decode b_M_clashes 1 = .ok (.iconst 0, 1) := by decide +kernel
theorem d_M_clashes_2 : decode b_M_clashes 2 = .ok (.putfield 80, 3) := by decide +kernel
theorem d_M_clashes_5 : decode b_M_clashes 5 = .ok (.iconst 0, 1) := by decide +kernel
theorem d_M_clashes_6 : decode b_M_clashes 6 = .ok (.istore_n 1, 1) := by decide +kernel
theorem d_M_clashes_7 : decode b_M_clashes 7 = .ok (.iconst 0, 1) := by decide +kernel
theorem d_M_clashes_8 : decode b_M_clashes 8 = .ok (.istore_n 2, 1) := by decide +kernel
theorem d_M_clashes_9 : decode b_M_clashes 9 = .ok (.iload_n 2, 1) := by decide +kernel
theorem d_M_clashes_10 : decode b_M_clashes 10 = .ok (.aload_n 0, 1) := by decide +kernel
theorem d_M_clashes_11 : decode b_M_clashes 11 = .ok (.getfield 95, 3) := by decide +kernel
theorem d_M_clashes_14 : decode b_M_clashes 14 = .ok (.if_icmp .ge 45, 3) := by decide +kernel
theorem d_M_clashes_17 : decode b_M_clashes 17 = .ok (.iload_n 2, 1) := by decide +kernel
theorem d_M_clashes_18 : decode b_M_clashes 18 = .ok (.iconst 1, 1) := by decide +kernel
theorem d_M_clashes_19 : decode b_M_clashes 19 = .ok (.iadd, 1) := by decide +kernel
theorem d_M_clashes_20 : decode b_M_clashes 20 = .ok (.istore_n 3, 1) := by decide +kernel
theorem d_M_clashes_21 : decode b_M_clashes 21 = .ok (.iload_n 3, 1) := by decide +kernel
theorem d_M_clashes_22 : decode b_M_clashes 22 = .ok (.aload_n 0, 1) := by decide +kernel
theorem d_M_clashes_23 : decode b_M_clashes 23 = .ok (.getfield 95, 3) := by decide +kernel
theorem d_M_clashes_26 : decode b_M_clashes 26 = .ok (.if_icmp .ge 27, 3) := by decide +kernel
theorem d_M_clashes_29 : decode b_M_clashes 29 = .ok (.iload_n 1, 1) := by decide +kernel
theorem d_M_clashes_30 : decode b_M_clashes 30 = .ok (.aload_n 0, 1) := by decide +kernel
theorem d_M_clashes_31 : decode b_M_clashes 31 = .ok (.iload_n 2, 1) := by decide +kernel
theorem d_M_clashes_32 : decode b_M_clashes 32 = .ok (.iload_n 3, 1) := by decide +kernel
theorem d_M_clashes_33 : decode b_M_clashes 33 = .ok (.invokevirtual 259, 3) := by decide +kernel
theorem d_M_clashes_36 : decode b_M_clashes 36 = .ok (.iconst 2, 1) := by decide +kernel
theorem d_M_clashes_37 : decode b_M_clashes 37 = .ok (.if_icmp .ne 7, 3) := by decide +kernel
theorem d_M_clashes_40 : decode b_M_clashes 40 = .ok (.iconst 1, 1) := by decide +kernel
theorem d_M_clashes_41 : decode b_M_clashes 41 = .ok (.goto 4, 3) := by decide +kernel
theorem d_M_clashes_44 : decode b_M_clashes 44 = .ok (.iconst 0, 1) := by decide +kernel
theorem d_M_clashes_45 : decode b_M_clashes 45 = .ok (.iadd, 1) := by decide +kernel
theorem d_M_clashes_46 : decode b_M_clashes 46 = .ok (.istore_n 1, 1) := by decide +kernel
theorem d_M_clashes_47 : decode b_M_clashes 47 = .ok (.iinc 3 1, 3) := by decide +kernel
theorem d_M_clashes_50 : decode b_M_clashes 50 = .ok (.goto (-29), 3) := by decide +kernel
theorem d_M_clashes_53 : decode b_M_clashes 53 = .ok (.iinc 2 1, 3) := by decide +kernel
theorem d_M_clashes_56 : decode b_M_clashes 56 = .ok (.goto (-47), 3) := by decide +kernel
theorem d_M_clashes_59 : decode b_M_clashes 59 = .ok (.iload_n 1, 1) := by decide +kernel
theorem d_M_clashes_60 : decode b_M_clashes 60 = .ok (.ireturn, 1) := by decide +kernel
abbrev rm_M_clashes : Room := { frames := 6, cells := 0, slots := 0, locals := 189 }
theorem ce_M_clashes : gCe y_M_clashes (.code y_M_clashes b_M_clashes 4 (some .int)) 4 0 false := gCe.code wd_1070 wd_57 wd_1068 (by decide) (by decide +kernel)
def f_M_clashes_L21 (g0 : gG) (c0 : Nat) (c2 : Int32) (K53 : Int32 → gW → gX Int32) : Nat → Int32 → Int32 → gW → gX Int32
  | 0, _, _, _ => none
  | n + 1, z1, z3, w => (gfI w c0 7 12).bind fun v7 => if v7 ≤ z3 then (K53 z1 w) else ((gck w c0 7).bind fun _ => gbind (f_M_meet g0 c0 c2 z3 w) fun v14 w => gjoin (fun K45 => if v14 = 2 then (K45 1 w) else (K45 0 w)) (fun (y15 : Int32) (w : gW) => f_M_clashes_L21 g0 c0 c2 K53 n (z1 + y15) (z3 + 1) w))
def f_M_clashes_L9 (g0 : gG) (c0 : Nat) (K59 : Int32 → gW → gX Int32) : Nat → Int32 → Int32 → gW → gX Int32
  | 0, _, _, _ => none
  | n + 1, z1, z2, w => (gfI w c0 7 12).bind fun v3 => if v3 ≤ z2 then (K59 z1 w) else (gjoin (fun K53 => f_M_clashes_L21 g0 c0 z2 K53 64 z1 (z2 + 1) w) (fun (x6 : Int32) (w : gW) => f_M_clashes_L9 g0 c0 K59 n x6 (z2 + 1) w))
def f_M_clashes (g0 : gG) (a0 : Nat) (w : gW) : gX Int32 := (gp w a0 7 0 (.int 0)).bind fun w => gjoin (fun K59 => f_M_clashes_L9 g0 a0 K59 64 0 0 w) (fun (x2 : Int32) (w : gW) => some (.inr x2, w))
set_option maxHeartbeats 4000000 in
set_option maxRecDepth 100000 in
theorem m_M_clashes (l : Launch) (hst : l.stackTraces = false) (D : gD) (g0 : gG) (a0 : Nat) (w : gW) (r : (String ⊕ Int32) × gW) (h : f_M_clashes g0 a0 w = some r) : gMet l y_M_clashes (.code y_M_clashes b_M_clashes 4 (some .int)) rm_M_clashes D g0 [.ref a0] w (goI r) := by
  refine gw_ofI (by decide +kernel) (Nat.le_of_ble_eq_true rfl) ?_
  intro p e s m below meth c ls args A Q hx hb hml hown hlocks hin hnt hT hK hZ hA hret hexc hthr hI hl
  obtain ⟨H, hH⟩ : ∃ H, H = s.heap := ⟨_, rfl⟩
  rw [← hH] at hI ⊢
  obtain ⟨locs, hlocs⟩ : ∃ z : List Loc, z = [] := ⟨_, rfl⟩
  rw [← hlocs] at hI ⊢
  have hl : lv_has ls 4 [(0, .ref a0)] := hl
  unfold f_M_clashes at h
  refine lv_aload_n hx hb d_M_clashes_0 rfl (lv_at hl 0 rfl) ?_
  refine lv_iconst (v := 0) hx hb d_M_clashes_1 (by decide) ?_
  obtain ⟨w, e1, h⟩ := gb h
  refine gw_put hx hb hT hown hK hI (ci := 7) rfl i_7 t_7 t_7_ok n_7 0 (by decide) wd_786 (fun _ h9 => h9) rfl (ty := .int) (by decide +kernel) rfl rfl e1 d_M_clashes_2 (fun H locs hI => ?_)
  refine lv_iconst (v := 0) hx hb d_M_clashes_5 (by decide) ?_
  refine lv_istore_n (lv' := [(1, .int 0), (0, .ref a0)]) hx hb d_M_clashes_6 rfl hl (by decide) rfl (fun ls hl => ?_)
  refine lv_iconst (v := 0) hx hb d_M_clashes_7 (by decide) ?_
  refine lv_istore_n (lv' := [(2, .int 0), (1, .int 0), (0, .ref a0)]) hx hb d_M_clashes_8 rfl hl (by decide) rfl (fun ls hl => ?_)
  obtain ⟨K59, eK59, h⟩ := gj h
  have hK59 : ∀ (x2 : Int32) (w : gW) (H : Heap) (locs : List Loc) (ls : Array Slot), K59 x2 w = some r → gI D s A w H locs → lv_has ls 4 [(1, .int x2)] → W p l e rm_M_clashes s m args below meth c H locs 0 0 Q (F0 m 59 ls []) := by
    intro x2 w H locs ls h hI hl
    have h := gk2 eK59 h
    refine lv_iload_n hx hb d_M_clashes_59 rfl (lv_at hl 0 rfl) ?_
    exact W.widen (show 0 ≤ 0 by omega) (show 0 ≤ 0 by omega) (hret _ _ (Option.some.inj h).symm _ _ _ _ d_M_clashes_60 hI)
  have hL9 : ∀ (n : Nat), ∀ (z3 : Int32) (z4 : Int32) (w : gW) (H : Heap) (locs : List Loc) (ls : Array Slot), f_M_clashes_L9 g0 a0 K59 n z3 z4 w = some r → gI D s A w H locs → lv_has ls 4 [(0, .ref a0), (1, .int z3), (2, .int z4)] → W p l e rm_M_clashes s m args below meth c H locs 0 0 Q (F0 m 9 ls []) := by
    intro n
    induction n with
    | zero => intro z3 z4 w H locs ls h hI hl; exact absurd h (by simp [f_M_clashes_L9])
    | succ n ih =>
      intro z3 z4 w H locs ls h hI hl
      rw [f_M_clashes_L9] at h
      refine lv_iload_n hx hb d_M_clashes_9 rfl (lv_at hl 2 rfl) ?_
      refine lv_aload_n hx hb d_M_clashes_10 rfl (lv_at hl 0 rfl) ?_
      obtain ⟨v5, e6, h⟩ := gb h
      refine gw_getI hx hb hT hown hK hI (ci := 7) rfl i_7 12 (by decide) wd_798 (fun _ h9 => h9) e6 d_M_clashes_11 ?_
      refine lv_icmp_ge (tgt := 59) hx hb d_M_clashes_14 (by decide) (fun c7 => ?_) (fun c7 => ?_)
      · skip
        have h := git c7 h
        exact hK59 _ w H locs ls h hI (lv_sub hl [1] rfl)
      · skip
        have h := gie c7 h
        refine lv_iload_n hx hb d_M_clashes_17 rfl (lv_at hl 2 rfl) ?_
        refine lv_iconst (v := 1) hx hb d_M_clashes_18 (by decide) ?_
        refine lv_iadd hx hb d_M_clashes_19 ?_
        refine lv_istore_n (lv' := [(3, .int (z4 + 1)), (0, .ref a0), (1, .int z3), (2, .int z4)]) hx hb d_M_clashes_20 rfl hl (by decide) rfl (fun ls hl => ?_)
        obtain ⟨K53, eK53, h⟩ := gj h
        have hK53 : ∀ (x8 : Int32) (w : gW) (H : Heap) (locs : List Loc) (ls : Array Slot), K53 x8 w = some r → gI D s A w H locs → lv_has ls 4 [(0, .ref a0), (1, .int x8), (2, .int z4)] → W p l e rm_M_clashes s m args below meth c H locs 0 0 Q (F0 m 53 ls []) := by
          intro x8 w H locs ls h hI hl
          have h := gk2 eK53 h
          refine lv_iinc (v := z4 + 1) (lv' := [(2, .int (z4 + 1)), (0, .ref a0), (1, .int x8)]) hx hb d_M_clashes_53 hl (k := 2) rfl rfl (by decide) rfl (fun ls hl => ?_)
          refine lv_goto (tgt := 9) hx hb d_M_clashes_56 (by decide) ?_
          exact ih _ _ w H locs ls h hI (lv_sub hl [1, 2, 0] rfl)
        have hL21 : ∀ (n : Nat), ∀ (z9 : Int32) (z10 : Int32) (w : gW) (H : Heap) (locs : List Loc) (ls : Array Slot), f_M_clashes_L21 g0 a0 z4 K53 n z9 z10 w = some r → gI D s A w H locs → lv_has ls 4 [(0, .ref a0), (2, .int z4), (1, .int z9), (3, .int z10)] → W p l e rm_M_clashes s m args below meth c H locs 0 0 Q (F0 m 21 ls []) := by
          intro n
          induction n with
          | zero => intro z9 z10 w H locs ls h hI hl; exact absurd h (by simp [f_M_clashes_L21])
          | succ n ih =>
            intro z9 z10 w H locs ls h hI hl
            rw [f_M_clashes_L21] at h
            refine lv_iload_n hx hb d_M_clashes_21 rfl (lv_at hl 3 rfl) ?_
            refine lv_aload_n hx hb d_M_clashes_22 rfl (lv_at hl 0 rfl) ?_
            obtain ⟨v11, e12, h⟩ := gb h
            refine gw_getI hx hb hT hown hK hI (ci := 7) rfl i_7 12 (by decide) wd_798 (fun _ h9 => h9) e12 d_M_clashes_23 ?_
            refine lv_icmp_ge (tgt := 53) hx hb d_M_clashes_26 (by decide) (fun c13 => ?_) (fun c13 => ?_)
            · skip
              have h := git c13 h
              exact hK53 _ w H locs ls h hI (lv_sub hl [0, 2, 1] rfl)
            · skip
              have h := gie c13 h
              refine lv_iload_n hx hb d_M_clashes_29 rfl (lv_at hl 2 rfl) ?_
              refine lv_aload_n hx hb d_M_clashes_30 rfl (lv_at hl 0 rfl) ?_
              refine lv_iload_n hx hb d_M_clashes_31 rfl (lv_at hl 1 rfl) ?_
              refine lv_iload_n hx hb d_M_clashes_32 rfl (lv_at hl 3 rfl) ?_
              obtain ⟨q16, e17, h⟩ := gb h
              obtain ⟨u14, e15⟩ := gsome h
              refine gw_callI e15 h (gw_runV (As := [.int z4, .int z10]) (rest := [.int z9]) hx hb hml hown hT hK hZ hA hI (ci := 7) rfl e17 (m_M_meet l hst D g0 a0 z4 z10 w u14 e15) ce_M_meet wd_963 wd_24 ⟨by decide, by decide⟩ rfl rfl hl.1 rfl (lv_room (Nat.le_of_ble_eq_true rfl)) d_M_clashes_33 ⟨(show 0 + 0 ≤ 0 by omega), (show 0 + 0 ≤ 0 by omega)⟩) hI hA hexc (show 0 + 0 ≤ 0 by omega) (show 0 + 0 ≤ 0 by omega) (fun v18 w H locs h hI => ?_)
              refine lv_iconst (v := 2) hx hb d_M_clashes_36 (by decide) ?_
              obtain ⟨K45, eK45, h⟩ := gj h
              have hK45 : ∀ (y19 : Int32) (w : gW) (H : Heap) (locs : List Loc) (ls : Array Slot), K45 y19 w = some r → gI D s A w H locs → lv_has ls 4 [(0, .ref a0), (2, .int z4), (3, .int z10)] → W p l e rm_M_clashes s m args below meth c H locs 0 0 Q (F0 m 45 ls [.int y19, .int z9]) := by
                intro y19 w H locs ls h hI hl
                have h := gk2 eK45 h
                refine lv_iadd hx hb d_M_clashes_45 ?_
                refine lv_istore_n (lv' := [(1, .int (z9 + y19)), (0, .ref a0), (2, .int z4), (3, .int z10)]) hx hb d_M_clashes_46 rfl hl (by decide) rfl (fun ls hl => ?_)
                refine lv_iinc (v := z10 + 1) (lv' := [(3, .int (z10 + 1)), (1, .int (z9 + y19)), (0, .ref a0), (2, .int z4)]) hx hb d_M_clashes_47 hl (k := 3) rfl rfl (by decide) rfl (fun ls hl => ?_)
                refine lv_goto (tgt := 21) hx hb d_M_clashes_50 (by decide) ?_
                exact ih _ _ w H locs ls h hI (lv_sub hl [2, 3, 1, 0] rfl)
              refine lv_icmp_ne (tgt := 44) hx hb d_M_clashes_37 (by decide) (fun c20 => ?_) (fun c20 => ?_)
              · skip
                have h := gie c20 h
                refine lv_iconst (v := 0) hx hb d_M_clashes_44 (by decide) ?_
                exact hK45 _ w H locs ls h hI (lv_sub hl [0, 1, 3] rfl)
              · skip
                have h := git c20 h
                refine lv_iconst (v := 1) hx hb d_M_clashes_40 (by decide) ?_
                refine lv_goto (tgt := 45) hx hb d_M_clashes_41 (by decide) ?_
                exact hK45 _ w H locs ls h hI (lv_sub hl [0, 1, 3] rfl)
        exact hL21 64 _ _ w H locs ls h hI (lv_sub hl [1, 3, 2, 0] rfl)
  exact hL9 64 _ _ w H locs ls h hI (lv_sub hl [2, 1, 0] rfl)
