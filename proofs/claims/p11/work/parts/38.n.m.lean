abbrev b_M_bases : ByteArray := prog_9_method_50_code
def y_M_bases : MethodName := ⟨"BodySolidsModel", "bases", "()I"⟩
theorem d_M_bases_0 : decode b_M_bases 0 = .ok (.aload_n 0, 1) := by decide +kernel
theorem d_M_bases_1 : decode b_M_bases 1 = .ok (.getfield 53, 3) := by decide +kernel
theorem d_M_bases_4 : decode b_M_bases 4 = .ok (.iconst 0, 1) := by decide +kernel
theorem d_M_bases_5 : decode b_M_bases 5 = .ok (.iaload, 1) := by decide +kernel
theorem d_M_bases_6 : decode b_M_bases 6 = .ok (.iconst 2, 1) := by decide +kernel
theorem d_M_bases_7 : decode b_M_bases 7 = .ok (.if_icmp .ne 18, 3) := by decide +kernel
theorem d_M_bases_10 : decode b_M_bases 10 = .ok (.aload_n 0, 1) := by decide +kernel
theorem d_M_bases_11 : decode b_M_bases 11 = .ok (.getfield 53, 3) := by decide +kernel
theorem d_M_bases_14 : decode b_M_bases 14 = .ok (.iconst 1, 1) := by decide +kernel
theorem d_M_bases_15 : decode b_M_bases 15 = .ok (.iaload, 1) := by decide +kernel
theorem d_M_bases_16 : decode b_M_bases 16 = .ok (.iconst 2, 1) := by decide +kernel
theorem d_M_bases_17 : decode b_M_bases 17 = .ok (.if_icmp .ne 8, 3) := by decide +kernel
theorem d_M_bases_20 : decode b_M_bases 20 = .ok (.aload_n 0, 1) := by decide +kernel
theorem d_M_bases_21 : decode b_M_bases 21 = .ok (.invokevirtual 235, 3) := by decide +kernel
theorem d_M_bases_24 : decode b_M_bases 24 = .ok (.ireturn, 1) := by decide +kernel
theorem d_M_bases_25 : decode b_M_bases 25 = .ok (.aload_n 0, 1) := by decide +kernel
theorem d_M_bases_26 : decode b_M_bases 26 = .ok (.getfield 53, 3) := by decide +kernel
theorem d_M_bases_29 : decode b_M_bases 29 = .ok (.iconst 0, 1) := by decide +kernel
theorem d_M_bases_30 : decode b_M_bases 30 = .ok (.iaload, 1) := by decide +kernel
theorem d_M_bases_31 : decode b_M_bases 31 = .ok (.iconst 2, 1) := by decide +kernel
theorem d_M_bases_32 : decode b_M_bases 32 = .ok (.if_icmp .ne 36, 3) := by decide +kernel
theorem d_M_bases_35 : decode b_M_bases 35 = .ok (.aload_n 0, 1) := by decide +kernel
theorem d_M_bases_36 : decode b_M_bases 36 = .ok (.iconst 0, 1) := by decide +kernel
theorem d_M_bases_37 : decode b_M_bases 37 = .ok (.aload_n 0, 1) := by decide +kernel
theorem d_M_bases_38 : decode b_M_bases 38 = .ok (.getfield 59, 3) := by decide +kernel
theorem d_M_bases_41 : decode b_M_bases 41 = .ok (.bipush 8, 2) := by decide +kernel
theorem d_M_bases_43 : decode b_M_bases 43 = .ok (.laload, 1) := by decide +kernel
theorem d_M_bases_44 : decode b_M_bases 44 = .ok (.aload_n 0, 1) := by decide +kernel
theorem d_M_bases_45 : decode b_M_bases 45 = .ok (.getfield 62, 3) := by decide +kernel
theorem d_M_bases_48 : decode b_M_bases 48 = .ok (.bipush 8, 2) := by decide +kernel
theorem d_M_bases_50 : decode b_M_bases 50 = .ok (.laload, 1) := by decide +kernel
theorem d_M_bases_51 : decode b_M_bases 51 = .ok (.aload_n 0, 1) := by decide +kernel
theorem d_M_bases_52 : decode b_M_bases 52 = .ok (.getfield 65, 3) := by decide +kernel
theorem d_M_bases_55 : decode b_M_bases 55 = .ok (.iconst 1, 1) := by decide +kernel
theorem d_M_bases_56 : decode b_M_bases 56 = .ok (.laload, 1) := by decide +kernel
theorem d_M_bases_57 : decode b_M_bases 57 = .ok (.aload_n 0, 1) := by decide +kernel
theorem d_M_bases_58 : decode b_M_bases 58 = .ok (.getfield 65, 3) := by decide +kernel
theorem d_M_bases_61 : decode b_M_bases 61 = .ok (.iconst 1, 1) := by decide +kernel
theorem d_M_bases_62 : decode b_M_bases 62 = .ok (.laload, 1) := by decide +kernel
theorem d_M_bases_63 : decode b_M_bases 63 = .ok (.lmul, 1) := by decide +kernel
theorem d_M_bases_64 : decode b_M_bases 64 = .ok (.invokevirtual 208, 3) := by decide +kernel
theorem d_M_bases_67 : decode b_M_bases 67 = .ok (.ireturn, 1) := by decide +kernel
theorem d_M_bases_68 : decode b_M_bases 68 = .ok (.aload_n 0, 1) := by decide +kernel
theorem d_M_bases_69 : decode b_M_bases 69 = .ok (.getfield 53, 3) := by decide +kernel
theorem d_M_bases_72 : decode b_M_bases 72 = .ok (.iconst 1, 1) := by decide +kernel
theorem d_M_bases_73 : decode b_M_bases 73 = .ok (.iaload, 1) := by decide +kernel
theorem d_M_bases_74 : decode b_M_bases 74 = .ok (.iconst 2, 1) := by decide +kernel
theorem d_M_bases_75 : decode b_M_bases 75 = .ok (.if_icmp .ne 34, 3) := by decide +kernel
theorem d_M_bases_78 : decode b_M_bases 78 = .ok (.aload_n 0, 1) := by decide +kernel
theorem d_M_bases_79 : decode b_M_bases 79 = .ok (.iconst 1, 1) := by decide +kernel
theorem d_M_bases_80 : decode b_M_bases 80 = .ok (.aload_n 0, 1) := by decide +kernel
theorem d_M_bases_81 : decode b_M_bases 81 = .ok (.getfield 59, 3) := by decide +kernel
theorem d_M_bases_84 : decode b_M_bases 84 = .ok (.iconst 0, 1) := by decide +kernel
theorem d_M_bases_85 : decode b_M_bases 85 = .ok (.laload, 1) := by decide +kernel
theorem d_M_bases_86 : decode b_M_bases 86 = .ok (.aload_n 0, 1) := by decide +kernel
theorem d_M_bases_87 : decode b_M_bases 87 = .ok (.getfield 62, 3) := by decide +kernel
theorem d_M_bases_90 : decode b_M_bases 90 = .ok (.iconst 0, 1) := by decide +kernel
theorem d_M_bases_91 : decode b_M_bases 91 = .ok (.laload, 1) := by decide +kernel
theorem d_M_bases_92 : decode b_M_bases 92 = .ok (.aload_n 0, 1) := by decide +kernel
theorem d_M_bases_93 : decode b_M_bases 93 = .ok (.getfield 65, 3) := by decide +kernel
theorem d_M_bases_96 : decode b_M_bases 96 = .ok (.iconst 0, 1) := by decide +kernel
theorem d_M_bases_97 : decode b_M_bases 97 = .ok (.laload, 1) := by decide +kernel
theorem d_M_bases_98 : decode b_M_bases 98 = .ok (.aload_n 0, 1) := by decide +kernel
theorem d_M_bases_99 : decode b_M_bases 99 = .ok (.getfield 65, 3) := by decide +kernel
theorem d_M_bases_102 : decode b_M_bases 102 = .ok (.iconst 0, 1) := by decide +kernel
theorem d_M_bases_103 : decode b_M_bases 103 = .ok (.laload, 1) := by decide +kernel
theorem d_M_bases_104 : decode b_M_bases 104 = .ok (.lmul, 1) := by decide +kernel
theorem d_M_bases_105 : decode b_M_bases 105 = .ok (.invokevirtual 208, 3) := by decide +kernel
theorem d_M_bases_108 : decode b_M_bases 108 = .ok (.ireturn, 1) := by decide +kernel
theorem d_M_bases_109 : decode b_M_bases 109 = .ok (.aload_n 0, 1) := by decide +kernel
theorem d_M_bases_110 : decode b_M_bases 110 = .ok (.getfield 65, 3) := by decide +kernel
theorem d_M_bases_113 : decode b_M_bases 113 = .ok (.iconst 0, 1) := by decide +kernel
theorem d_M_bases_114 : decode b_M_bases 114 = .ok (.laload, 1) := by decide +kernel
theorem d_M_bases_115 : decode b_M_bases 115 = .ok (.aload_n 0, 1) := by decide +kernel
theorem d_M_bases_116 : decode b_M_bases 116 = .ok (.getfield 65, 3) := by decide +kernel
theorem d_M_bases_119 : decode b_M_bases 119 = .ok (.iconst 1, 1) := by decide +kernel
theorem d_M_bases_120 : decode b_M_bases 120 = .ok (.laload, 1) := by decide +kernel
theorem d_M_bases_121 : decode b_M_bases 121 = .ok (.ladd, 1) := by decide +kernel
theorem d_M_bases_122 : decode b_M_bases 122 = .ok (.lstore_n 1, 1) := by decide +kernel
theorem d_M_bases_123 : decode b_M_bases 123 = .ok (.aload_n 0, 1) := by decide +kernel
theorem d_M_bases_124 : decode b_M_bases 124 = .ok (.getfield 59, 3) := by decide +kernel
theorem d_M_bases_127 : decode b_M_bases 127 = .ok (.iconst 0, 1) := by decide +kernel
theorem d_M_bases_128 : decode b_M_bases 128 = .ok (.laload, 1) := by decide +kernel
theorem d_M_bases_129 : decode b_M_bases 129 = .ok (.aload_n 0, 1) := by decide +kernel
theorem d_M_bases_130 : decode b_M_bases 130 = .ok (.getfield 59, 3) := by decide +kernel
theorem d_M_bases_133 : decode b_M_bases 133 = .ok (.bipush 8, 2) := by decide +kernel
theorem d_M_bases_135 : decode b_M_bases 135 = .ok (.laload, 1) := by decide +kernel
theorem d_M_bases_136 : decode b_M_bases 136 = .ok (.lsub, 1) := by decide +kernel
theorem d_M_bases_137 : decode b_M_bases 137 = .ok (.aload_n 0, 1) := by decide +kernel
theorem d_M_bases_138 : decode b_M_bases 138 = .ok (.getfield 62, 3) := by decide +kernel
theorem d_M_bases_141 : decode b_M_bases 141 = .ok (.iconst 0, 1) := by decide +kernel
theorem d_M_bases_142 : decode b_M_bases 142 = .ok (.laload, 1) := by decide +kernel
theorem d_M_bases_143 : decode b_M_bases 143 = .ok (.aload_n 0, 1) := by decide +kernel
theorem d_M_bases_144 : decode b_M_bases 144 = .ok (.getfield 62, 3) := by decide +kernel
theorem d_M_bases_147 : decode b_M_bases 147 = .ok (.bipush 8, 2) := by decide +kernel
theorem d_M_bases_149 : decode b_M_bases 149 = .ok (.laload, 1) := by decide +kernel
theorem d_M_bases_150 : decode b_M_bases 150 = .ok (.lsub, 1) := by decide +kernel
theorem d_M_bases_151 : decode b_M_bases 151 = .ok (.invokestatic 194, 3) := by decide +kernel
theorem d_M_bases_154 : decode b_M_bases 154 = .ok (.lload_n 1, 1) := by decide +kernel
theorem d_M_bases_155 : decode b_M_bases 155 = .ok (.lload_n 1, 1) := by decide +kernel
theorem d_M_bases_156 : decode b_M_bases 156 = .ok (.lmul, 1) := by decide +kernel
theorem d_M_bases_157 : decode b_M_bases 157 = .ok (.lsub, 1) := by decide +kernel
theorem d_M_bases_158 : decode b_M_bases 158 = .ok (.invokestatic 186, 3) := by decide +kernel
theorem d_M_bases_161 : decode b_M_bases 161 = .ok (.ireturn, 1) := by decide +kernel
abbrev rm_M_bases : Room := { frames := 3, cells := 0, slots := 0, locals := 101 }
theorem ce_M_bases : gCe y_M_bases (.code y_M_bases b_M_bases 3 (some .int)) 3 0 false := gCe.code wd_1058 wd_57 wd_1057 (by decide) (by decide +kernel)
def f_M_bases (g0 : gG) (a0 : Nat) (w : gW) : gX Int32 := (gfA w a0 7 20).bind fun v1 => (gaI w v1 0).bind fun v3 => gjoin (fun K25 => if v3 = 2 then ((gfA w a0 7 20).bind fun v88 => (gaI w v88 1).bind fun v90 => if v90 = 2 then ((gck w a0 7).bind fun _ => gbind (f_M_polygons g0 a0 w) fun v97 w => some (.inr v97, w)) else (K25 w)) else (K25 w)) (fun (w : gW) => (gfA w a0 7 20).bind fun v5 => (gaI w v5 0).bind fun v7 => if v7 = 2 then ((gfA w a0 7 22).bind fun v66 => (gaJ w v66 8).bind fun v68 => (gfA w a0 7 23).bind fun v70 => (gaJ w v70 8).bind fun v72 => (gfA w a0 7 24).bind fun v74 => (gaJ w v74 1).bind fun v76 => (gfA w a0 7 24).bind fun v78 => (gaJ w v78 1).bind fun v80 => (gck w a0 7).bind fun _ => gbind (f_M_fromPolygon g0 a0 0 v68 v72 (v76 * v80) w) fun v86 w => some (.inr v86, w)) else ((gfA w a0 7 20).bind fun v10 => (gaI w v10 1).bind fun v12 => if v12 = 2 then ((gfA w a0 7 22).bind fun v45 => (gaJ w v45 0).bind fun v47 => (gfA w a0 7 23).bind fun v49 => (gaJ w v49 0).bind fun v51 => (gfA w a0 7 24).bind fun v53 => (gaJ w v53 0).bind fun v55 => (gfA w a0 7 24).bind fun v57 => (gaJ w v57 0).bind fun v59 => (gck w a0 7).bind fun _ => gbind (f_M_fromPolygon g0 a0 1 v47 v51 (v55 * v59) w) fun v65 w => some (.inr v65, w)) else ((gfA w a0 7 24).bind fun v15 => (gaJ w v15 0).bind fun v17 => (gfA w a0 7 24).bind fun v19 => (gaJ w v19 1).bind fun v21 => (gfA w a0 7 22).bind fun v23 => (gaJ w v23 0).bind fun v25 => (gfA w a0 7 22).bind fun v27 => (gaJ w v27 8).bind fun v29 => (gfA w a0 7 23).bind fun v31 => (gaJ w v31 0).bind fun v33 => (gfA w a0 7 23).bind fun v35 => (gaJ w v35 8).bind fun v37 => gbind (f_M_square g0 (v25 - v29) (v33 - v37) w) fun v41 w => gbind (f_M_common g0 (v41 - ((v17 + v21) * (v17 + v21))) w) fun v44 w => some (.inr v44, w))))
set_option maxHeartbeats 4000000 in
set_option maxRecDepth 100000 in
theorem m_M_bases (l : Launch) (hst : l.stackTraces = false) (D : gD) (g0 : gG) (a0 : Nat) (w : gW) (r : (String ⊕ Int32) × gW) (h : f_M_bases g0 a0 w = some r) : gMet l y_M_bases (.code y_M_bases b_M_bases 3 (some .int)) rm_M_bases D g0 [.ref a0] w (goI r) := by
  refine gw_ofI (by decide +kernel) (Nat.le_of_ble_eq_true rfl) ?_
  intro p e s m below meth c ls args A Q hx hb hml hown hlocks hin hnt hT hK hZ hA hret hexc hthr hI hl
  obtain ⟨H, hH⟩ : ∃ H, H = s.heap := ⟨_, rfl⟩
  rw [← hH] at hI ⊢
  obtain ⟨locs, hlocs⟩ : ∃ z : List Loc, z = [] := ⟨_, rfl⟩
  rw [← hlocs] at hI ⊢
  have hl : lv_has ls 3 [(0, .ref a0)] := hl
  unfold f_M_bases at h
  refine lv_aload_n hx hb d_M_bases_0 rfl (lv_at hl 0 rfl) ?_
  obtain ⟨v1, e2, h⟩ := gb h
  refine gw_getA hx hb hT hown hK hI (ci := 7) rfl i_7 20 (by decide) wd_806 (fun _ h9 => h9) e2 d_M_bases_1 ?_
  refine lv_iconst (v := 0) hx hb d_M_bases_4 (by decide) ?_
  obtain ⟨v3, e4, h⟩ := gb h
  refine gw_aldI hx hb hK hI e4 d_M_bases_5 ?_
  refine lv_iconst (v := 2) hx hb d_M_bases_6 (by decide) ?_
  obtain ⟨K25, eK25, h⟩ := gj h
  have hK25 : ∀ (w : gW) (H : Heap) (locs : List Loc) (ls : Array Slot), K25 w = some r → gI D s A w H locs → lv_has ls 3 [(0, .ref a0)] → W p l e rm_M_bases s m args below meth c H locs 0 0 Q (F0 m 25 ls []) := by
    intro w H locs ls h hI hl
    have h := gk1 eK25 h
    refine lv_aload_n hx hb d_M_bases_25 rfl (lv_at hl 0 rfl) ?_
    obtain ⟨v5, e6, h⟩ := gb h
    refine gw_getA hx hb hT hown hK hI (ci := 7) rfl i_7 20 (by decide) wd_806 (fun _ h9 => h9) e6 d_M_bases_26 ?_
    refine lv_iconst (v := 0) hx hb d_M_bases_29 (by decide) ?_
    obtain ⟨v7, e8, h⟩ := gb h
    refine gw_aldI hx hb hK hI e8 d_M_bases_30 ?_
    refine lv_iconst (v := 2) hx hb d_M_bases_31 (by decide) ?_
    refine lv_icmp_ne (tgt := 68) hx hb d_M_bases_32 (by decide) (fun c9 => ?_) (fun c9 => ?_)
    · skip
      have h := gie c9 h
      refine lv_aload_n hx hb d_M_bases_68 rfl (lv_at hl 0 rfl) ?_
      obtain ⟨v10, e11, h⟩ := gb h
      refine gw_getA hx hb hT hown hK hI (ci := 7) rfl i_7 20 (by decide) wd_806 (fun _ h9 => h9) e11 d_M_bases_69 ?_
      refine lv_iconst (v := 1) hx hb d_M_bases_72 (by decide) ?_
      obtain ⟨v12, e13, h⟩ := gb h
      refine gw_aldI hx hb hK hI e13 d_M_bases_73 ?_
      refine lv_iconst (v := 2) hx hb d_M_bases_74 (by decide) ?_
      refine lv_icmp_ne (tgt := 109) hx hb d_M_bases_75 (by decide) (fun c14 => ?_) (fun c14 => ?_)
      · skip
        have h := gie c14 h
        refine lv_aload_n hx hb d_M_bases_109 rfl (lv_at hl 0 rfl) ?_
        obtain ⟨v15, e16, h⟩ := gb h
        refine gw_getA hx hb hT hown hK hI (ci := 7) rfl i_7 24 (by decide) wd_810 (fun _ h9 => h9) e16 d_M_bases_110 ?_
        refine lv_iconst (v := 0) hx hb d_M_bases_113 (by decide) ?_
        obtain ⟨v17, e18, h⟩ := gb h
        refine gw_aldJ hx hb hK hI e18 d_M_bases_114 ?_
        refine lv_aload_n hx hb d_M_bases_115 rfl (lv_at hl 0 rfl) ?_
        obtain ⟨v19, e20, h⟩ := gb h
        refine gw_getA hx hb hT hown hK hI (ci := 7) rfl i_7 24 (by decide) wd_810 (fun _ h9 => h9) e20 d_M_bases_116 ?_
        refine lv_iconst (v := 1) hx hb d_M_bases_119 (by decide) ?_
        obtain ⟨v21, e22, h⟩ := gb h
        refine gw_aldJ hx hb hK hI e22 d_M_bases_120 ?_
        refine lv_ladd hx hb d_M_bases_121 ?_
        refine lv_lstore_n (lv' := [(1, .long (v17 + v21)), (0, .ref a0)]) hx hb d_M_bases_122 rfl hl (by decide) rfl (fun ls hl => ?_)
        refine lv_aload_n hx hb d_M_bases_123 rfl (lv_at hl 1 rfl) ?_
        obtain ⟨v23, e24, h⟩ := gb h
        refine gw_getA hx hb hT hown hK hI (ci := 7) rfl i_7 22 (by decide) wd_808 (fun _ h9 => h9) e24 d_M_bases_124 ?_
        refine lv_iconst (v := 0) hx hb d_M_bases_127 (by decide) ?_
        obtain ⟨v25, e26, h⟩ := gb h
        refine gw_aldJ hx hb hK hI e26 d_M_bases_128 ?_
        refine lv_aload_n hx hb d_M_bases_129 rfl (lv_at hl 1 rfl) ?_
        obtain ⟨v27, e28, h⟩ := gb h
        refine gw_getA hx hb hT hown hK hI (ci := 7) rfl i_7 22 (by decide) wd_808 (fun _ h9 => h9) e28 d_M_bases_130 ?_
        refine lv_bipush (v := 8) hx hb d_M_bases_133 (by decide) ?_
        obtain ⟨v29, e30, h⟩ := gb h
        refine gw_aldJ hx hb hK hI e30 d_M_bases_135 ?_
        refine lv_lsub hx hb d_M_bases_136 ?_
        refine lv_aload_n hx hb d_M_bases_137 rfl (lv_at hl 1 rfl) ?_
        obtain ⟨v31, e32, h⟩ := gb h
        refine gw_getA hx hb hT hown hK hI (ci := 7) rfl i_7 23 (by decide) wd_809 (fun _ h9 => h9) e32 d_M_bases_138 ?_
        refine lv_iconst (v := 0) hx hb d_M_bases_141 (by decide) ?_
        obtain ⟨v33, e34, h⟩ := gb h
        refine gw_aldJ hx hb hK hI e34 d_M_bases_142 ?_
        refine lv_aload_n hx hb d_M_bases_143 rfl (lv_at hl 1 rfl) ?_
        obtain ⟨v35, e36, h⟩ := gb h
        refine gw_getA hx hb hT hown hK hI (ci := 7) rfl i_7 23 (by decide) wd_809 (fun _ h9 => h9) e36 d_M_bases_144 ?_
        refine lv_bipush (v := 8) hx hb d_M_bases_147 (by decide) ?_
        obtain ⟨v37, e38, h⟩ := gb h
        refine gw_aldJ hx hb hK hI e38 d_M_bases_149 ?_
        refine lv_lsub hx hb d_M_bases_150 ?_
        obtain ⟨u39, e40⟩ := gsome h
        refine gw_callJ e40 h (gw_runS (As := [.long (v25 - v29), .long (v33 - v37)]) (rest := []) hx hb hml hown hT hK hZ hA hI (m_M_square l hst D g0 (v25 - v29) (v33 - v37) w u39 e40) ce_M_square wd_1025 ⟨by decide, by decide⟩ rfl rfl hl.1 rfl (lv_room (Nat.le_of_ble_eq_true rfl)) d_M_bases_151 ⟨(show 0 + 0 ≤ 0 by omega), (show 0 + 0 ≤ 0 by omega)⟩) hI hA hexc (show 0 + 0 ≤ 0 by omega) (show 0 + 0 ≤ 0 by omega) (fun v41 w H locs h hI => ?_)
        refine lv_lload_n hx hb d_M_bases_154 rfl (lv_at hl 0 rfl) ?_
        refine lv_lload_n hx hb d_M_bases_155 rfl (lv_at hl 0 rfl) ?_
        refine lv_lmul hx hb d_M_bases_156 ?_
        refine lv_lsub hx hb d_M_bases_157 ?_
        obtain ⟨u42, e43⟩ := gsome h
        refine gw_callI e43 h (gw_runS (As := [.long (v41 - ((v17 + v21) * (v17 + v21)))]) (rest := []) hx hb hml hown hT hK hZ hA hI (m_M_common l hst D g0 (v41 - ((v17 + v21) * (v17 + v21))) w u42 e43) ce_M_common wd_1028 ⟨by decide, by decide⟩ rfl rfl hl.1 rfl (lv_room (Nat.le_of_ble_eq_true rfl)) d_M_bases_158 ⟨(show 0 + 0 ≤ 0 by omega), (show 0 + 0 ≤ 0 by omega)⟩) hI hA hexc (show 0 + 0 ≤ 0 by omega) (show 0 + 0 ≤ 0 by omega) (fun v44 w H locs h hI => ?_)
        exact W.widen (show 0 ≤ 0 by omega) (show 0 ≤ 0 by omega) (hret _ _ (Option.some.inj h).symm _ _ _ _ d_M_bases_161 hI)
      · skip
        have h := git c14 h
        refine lv_aload_n hx hb d_M_bases_78 rfl (lv_at hl 0 rfl) ?_
        refine lv_iconst (v := 1) hx hb d_M_bases_79 (by decide) ?_
        refine lv_aload_n hx hb d_M_bases_80 rfl (lv_at hl 0 rfl) ?_
        obtain ⟨v45, e46, h⟩ := gb h
        refine gw_getA hx hb hT hown hK hI (ci := 7) rfl i_7 22 (by decide) wd_808 (fun _ h9 => h9) e46 d_M_bases_81 ?_
        refine lv_iconst (v := 0) hx hb d_M_bases_84 (by decide) ?_
        obtain ⟨v47, e48, h⟩ := gb h
        refine gw_aldJ hx hb hK hI e48 d_M_bases_85 ?_
        refine lv_aload_n hx hb d_M_bases_86 rfl (lv_at hl 0 rfl) ?_
        obtain ⟨v49, e50, h⟩ := gb h
        refine gw_getA hx hb hT hown hK hI (ci := 7) rfl i_7 23 (by decide) wd_809 (fun _ h9 => h9) e50 d_M_bases_87 ?_
        refine lv_iconst (v := 0) hx hb d_M_bases_90 (by decide) ?_
        obtain ⟨v51, e52, h⟩ := gb h
        refine gw_aldJ hx hb hK hI e52 d_M_bases_91 ?_
        refine lv_aload_n hx hb d_M_bases_92 rfl (lv_at hl 0 rfl) ?_
        obtain ⟨v53, e54, h⟩ := gb h
        refine gw_getA hx hb hT hown hK hI (ci := 7) rfl i_7 24 (by decide) wd_810 (fun _ h9 => h9) e54 d_M_bases_93 ?_
        refine lv_iconst (v := 0) hx hb d_M_bases_96 (by decide) ?_
        obtain ⟨v55, e56, h⟩ := gb h
        refine gw_aldJ hx hb hK hI e56 d_M_bases_97 ?_
        refine lv_aload_n hx hb d_M_bases_98 rfl (lv_at hl 0 rfl) ?_
        obtain ⟨v57, e58, h⟩ := gb h
        refine gw_getA hx hb hT hown hK hI (ci := 7) rfl i_7 24 (by decide) wd_810 (fun _ h9 => h9) e58 d_M_bases_99 ?_
        refine lv_iconst (v := 0) hx hb d_M_bases_102 (by decide) ?_
        obtain ⟨v59, e60, h⟩ := gb h
        refine gw_aldJ hx hb hK hI e60 d_M_bases_103 ?_
        refine lv_lmul hx hb d_M_bases_104 ?_
        obtain ⟨q63, e64, h⟩ := gb h
        obtain ⟨u61, e62⟩ := gsome h
        refine gw_callI e62 h (gw_runV (As := [.int 1, .long v47, .long v51, .long (v55 * v59)]) (rest := []) hx hb hml hown hT hK hZ hA hI (ci := 7) rfl e64 (m_M_fromPolygon l hst D g0 a0 1 v47 v51 (v55 * v59) w u61 e62) ce_M_fromPolygon wd_1040 wd_39 ⟨by decide, by decide⟩ rfl rfl hl.1 rfl (lv_room (Nat.le_of_ble_eq_true rfl)) d_M_bases_105 ⟨(show 0 + 0 ≤ 0 by omega), (show 0 + 0 ≤ 0 by omega)⟩) hI hA hexc (show 0 + 0 ≤ 0 by omega) (show 0 + 0 ≤ 0 by omega) (fun v65 w H locs h hI => ?_)
        exact W.widen (show 0 ≤ 0 by omega) (show 0 ≤ 0 by omega) (hret _ _ (Option.some.inj h).symm _ _ _ _ d_M_bases_108 hI)
    · skip
      have h := git c9 h
      refine lv_aload_n hx hb d_M_bases_35 rfl (lv_at hl 0 rfl) ?_
      refine lv_iconst (v := 0) hx hb d_M_bases_36 (by decide) ?_
      refine lv_aload_n hx hb d_M_bases_37 rfl (lv_at hl 0 rfl) ?_
      obtain ⟨v66, e67, h⟩ := gb h
      refine gw_getA hx hb hT hown hK hI (ci := 7) rfl i_7 22 (by decide) wd_808 (fun _ h9 => h9) e67 d_M_bases_38 ?_
      refine lv_bipush (v := 8) hx hb d_M_bases_41 (by decide) ?_
      obtain ⟨v68, e69, h⟩ := gb h
      refine gw_aldJ hx hb hK hI e69 d_M_bases_43 ?_
      refine lv_aload_n hx hb d_M_bases_44 rfl (lv_at hl 0 rfl) ?_
      obtain ⟨v70, e71, h⟩ := gb h
      refine gw_getA hx hb hT hown hK hI (ci := 7) rfl i_7 23 (by decide) wd_809 (fun _ h9 => h9) e71 d_M_bases_45 ?_
      refine lv_bipush (v := 8) hx hb d_M_bases_48 (by decide) ?_
      obtain ⟨v72, e73, h⟩ := gb h
      refine gw_aldJ hx hb hK hI e73 d_M_bases_50 ?_
      refine lv_aload_n hx hb d_M_bases_51 rfl (lv_at hl 0 rfl) ?_
      obtain ⟨v74, e75, h⟩ := gb h
      refine gw_getA hx hb hT hown hK hI (ci := 7) rfl i_7 24 (by decide) wd_810 (fun _ h9 => h9) e75 d_M_bases_52 ?_
      refine lv_iconst (v := 1) hx hb d_M_bases_55 (by decide) ?_
      obtain ⟨v76, e77, h⟩ := gb h
      refine gw_aldJ hx hb hK hI e77 d_M_bases_56 ?_
      refine lv_aload_n hx hb d_M_bases_57 rfl (lv_at hl 0 rfl) ?_
      obtain ⟨v78, e79, h⟩ := gb h
      refine gw_getA hx hb hT hown hK hI (ci := 7) rfl i_7 24 (by decide) wd_810 (fun _ h9 => h9) e79 d_M_bases_58 ?_
      refine lv_iconst (v := 1) hx hb d_M_bases_61 (by decide) ?_
      obtain ⟨v80, e81, h⟩ := gb h
      refine gw_aldJ hx hb hK hI e81 d_M_bases_62 ?_
      refine lv_lmul hx hb d_M_bases_63 ?_
      obtain ⟨q84, e85, h⟩ := gb h
      obtain ⟨u82, e83⟩ := gsome h
      refine gw_callI e83 h (gw_runV (As := [.int 0, .long v68, .long v72, .long (v76 * v80)]) (rest := []) hx hb hml hown hT hK hZ hA hI (ci := 7) rfl e85 (m_M_fromPolygon l hst D g0 a0 0 v68 v72 (v76 * v80) w u82 e83) ce_M_fromPolygon wd_1040 wd_39 ⟨by decide, by decide⟩ rfl rfl hl.1 rfl (lv_room (Nat.le_of_ble_eq_true rfl)) d_M_bases_64 ⟨(show 0 + 0 ≤ 0 by omega), (show 0 + 0 ≤ 0 by omega)⟩) hI hA hexc (show 0 + 0 ≤ 0 by omega) (show 0 + 0 ≤ 0 by omega) (fun v86 w H locs h hI => ?_)
      exact W.widen (show 0 ≤ 0 by omega) (show 0 ≤ 0 by omega) (hret _ _ (Option.some.inj h).symm _ _ _ _ d_M_bases_67 hI)
  refine lv_icmp_ne (tgt := 25) hx hb d_M_bases_7 (by decide) (fun c87 => ?_) (fun c87 => ?_)
  · skip
    have h := gie c87 h
    exact hK25 w H locs ls h hI (lv_sub hl [0] rfl)
  · skip
    have h := git c87 h
    refine lv_aload_n hx hb d_M_bases_10 rfl (lv_at hl 0 rfl) ?_
    obtain ⟨v88, e89, h⟩ := gb h
    refine gw_getA hx hb hT hown hK hI (ci := 7) rfl i_7 20 (by decide) wd_806 (fun _ h9 => h9) e89 d_M_bases_11 ?_
    refine lv_iconst (v := 1) hx hb d_M_bases_14 (by decide) ?_
    obtain ⟨v90, e91, h⟩ := gb h
    refine gw_aldI hx hb hK hI e91 d_M_bases_15 ?_
    refine lv_iconst (v := 2) hx hb d_M_bases_16 (by decide) ?_
    refine lv_icmp_ne (tgt := 25) hx hb d_M_bases_17 (by decide) (fun c92 => ?_) (fun c92 => ?_)
    · skip
      have h := gie c92 h
      exact hK25 w H locs ls h hI (lv_sub hl [0] rfl)
    · skip
      have h := git c92 h
      refine lv_aload_n hx hb d_M_bases_20 rfl (lv_at hl 0 rfl) ?_
      obtain ⟨q95, e96, h⟩ := gb h
      obtain ⟨u93, e94⟩ := gsome h
      refine gw_callI e94 h (gw_runV (As := []) (rest := []) hx hb hml hown hT hK hZ hA hI (ci := 7) rfl e96 (m_M_polygons l hst D g0 a0 w u93 e94) ce_M_polygons wd_1059 wd_42 ⟨by decide, by decide⟩ rfl rfl hl.1 rfl (lv_room (Nat.le_of_ble_eq_true rfl)) d_M_bases_21 ⟨(show 0 + 0 ≤ 0 by omega), (show 0 + 0 ≤ 0 by omega)⟩) hI hA hexc (show 0 + 0 ≤ 0 by omega) (show 0 + 0 ≤ 0 by omega) (fun v97 w H locs h hI => ?_)
      exact W.widen (show 0 ≤ 0 by omega) (show 0 ≤ 0 by omega) (hret _ _ (Option.some.inj h).symm _ _ _ _ d_M_bases_24 hI)

abbrev b_M_both : ByteArray := prog_9_method_51_code
def y_M_both : MethodName := ⟨"BodySolidsModel", "both", "()I"⟩
theorem d_M_both_0 : decode b_M_both 0 = .ok (.aload_n 0, 1) := by decide +kernel
theorem d_M_both_1 : decode b_M_both 1 = .ok (.getfield 53, 3) := by decide +kernel
theorem d_M_both_4 : decode b_M_both 4 = .ok (.iconst 0, 1) := by decide +kernel
theorem d_M_both_5 : decode b_M_both 5 = .ok (.iaload, 1) := by decide +kernel
theorem d_M_both_6 : decode b_M_both 6 = .ok (.iconst 3, 1) := by decide +kernel
theorem d_M_both_7 : decode b_M_both 7 = .ok (.if_icmp .ne 18, 3) := by decide +kernel
theorem d_M_both_10 : decode b_M_both 10 = .ok (.aload_n 0, 1) := by decide +kernel
theorem d_M_both_11 : decode b_M_both 11 = .ok (.getfield 53, 3) := by decide +kernel
theorem d_M_both_14 : decode b_M_both 14 = .ok (.iconst 1, 1) := by decide +kernel
theorem d_M_both_15 : decode b_M_both 15 = .ok (.iaload, 1) := by decide +kernel
theorem d_M_both_16 : decode b_M_both 16 = .ok (.iconst 3, 1) := by decide +kernel
theorem d_M_both_17 : decode b_M_both 17 = .ok (.if_icmp .ne 8, 3) := by decide +kernel
theorem d_M_both_20 : decode b_M_both 20 = .ok (.aload_n 0, 1) := by decide +kernel
theorem d_M_both_21 : decode b_M_both 21 = .ok (.invokevirtual 239, 3) := by decide +kernel
theorem d_M_both_24 : decode b_M_both 24 = .ok (.ireturn, 1) := by decide +kernel
theorem d_M_both_25 : decode b_M_both 25 = .ok (.aload_n 0, 1) := by decide +kernel
theorem d_M_both_26 : decode b_M_both 26 = .ok (.getfield 53, 3) := by decide +kernel
theorem d_M_both_29 : decode b_M_both 29 = .ok (.iconst 0, 1) := by decide +kernel
theorem d_M_both_30 : decode b_M_both 30 = .ok (.iaload, 1) := by decide +kernel
theorem d_M_both_31 : decode b_M_both 31 = .ok (.iconst 3, 1) := by decide +kernel
theorem d_M_both_32 : decode b_M_both 32 = .ok (.if_icmp .eq 13, 3) := by decide +kernel
theorem d_M_both_35 : decode b_M_both 35 = .ok (.aload_n 0, 1) := by decide +kernel
theorem d_M_both_36 : decode b_M_both 36 = .ok (.getfield 53, 3) := by decide +kernel
theorem d_M_both_39 : decode b_M_both 39 = .ok (.iconst 1, 1) := by decide +kernel
theorem d_M_both_40 : decode b_M_both 40 = .ok (.iaload, 1) := by decide +kernel
theorem d_M_both_41 : decode b_M_both 41 = .ok (.iconst 3, 1) := by decide +kernel
theorem d_M_both_42 : decode b_M_both 42 = .ok (.if_icmp .ne 82, 3) := by decide +kernel
theorem d_M_both_45 : decode b_M_both 45 = .ok (.aload_n 0, 1) := by decide +kernel
theorem d_M_both_46 : decode b_M_both 46 = .ok (.getfield 53, 3) := by decide +kernel
theorem d_M_both_49 : decode b_M_both 49 = .ok (.iconst 0, 1) := by decide +kernel
theorem d_M_both_50 : decode b_M_both 50 = .ok (.iaload, 1) := by decide +kernel
theorem d_M_both_51 : decode b_M_both 51 = .ok (.iconst 3, 1) := by decide +kernel
theorem d_M_both_52 : decode b_M_both 52 = .ok (.if_icmp .ne 7, 3) := by decide +kernel
theorem d_M_both_55 : decode b_M_both 55 = .ok (.iconst 0, 1) := by decide +kernel
theorem d_M_both_56 : decode b_M_both 56 = .ok (.goto 4, 3) := by decide +kernel
theorem d_M_both_59 : decode b_M_both 59 = .ok (.iconst 1, 1) := by decide +kernel
theorem d_M_both_60 : decode b_M_both 60 = .ok (.istore_n 1, 1) := by decide +kernel
theorem d_M_both_61 : decode b_M_both 61 = .ok (.aload_n 0, 1) := by decide +kernel
theorem d_M_both_62 : decode b_M_both 62 = .ok (.invokevirtual 231, 3) := by decide +kernel
theorem d_M_both_65 : decode b_M_both 65 = .ok (.lstore_n 2, 1) := by decide +kernel
theorem d_M_both_66 : decode b_M_both 66 = .ok (.aload_n 0, 1) := by decide +kernel
theorem d_M_both_67 : decode b_M_both 67 = .ok (.getfield 65, 3) := by decide +kernel
theorem d_M_both_70 : decode b_M_both 70 = .ok (.iload_n 1, 1) := by decide +kernel
theorem d_M_both_71 : decode b_M_both 71 = .ok (.laload, 1) := by decide +kernel
theorem d_M_both_72 : decode b_M_both 72 = .ok (.aload_n 0, 1) := by decide +kernel
theorem d_M_both_73 : decode b_M_both 73 = .ok (.getfield 65, 3) := by decide +kernel
theorem d_M_both_76 : decode b_M_both 76 = .ok (.iload_n 1, 1) := by decide +kernel
theorem d_M_both_77 : decode b_M_both 77 = .ok (.laload, 1) := by decide +kernel
theorem d_M_both_78 : decode b_M_both 78 = .ok (.lmul, 1) := by decide +kernel
theorem d_M_both_79 : decode b_M_both 79 = .ok (.lload_n 2, 1) := by decide +kernel
theorem d_M_both_80 : decode b_M_both 80 = .ok (.lload_n 2, 1) := by decide +kernel
theorem d_M_both_81 : decode b_M_both 81 = .ok (.lmul, 1) := by decide +kernel
theorem d_M_both_82 : decode b_M_both 82 = .ok (.lsub, 1) := by decide +kernel
theorem d_M_both_83 : decode b_M_both 83 = .ok (.lstore 4, 2) := by decide +kernel
theorem d_M_both_85 : decode b_M_both 85 = .ok (.lload 4, 2) := by decide +kernel
theorem d_M_both_87 : decode b_M_both 87 = .ok (.lconst 0, 1) := by decide +kernel
theorem d_M_both_88 : decode b_M_both 88 = .ok (.lcmp, 1) := by decide +kernel
theorem d_M_both_89 : decode b_M_both 89 = .ok (.ifCond .ge 5, 3) := by decide +kernel
theorem d_M_both_92 : decode b_M_both 92 = .ok (.iconst 0, 1) := by decide +kernel
theorem d_M_both_93 : decode b_M_both 93 = .ok (.ireturn, 1) := by decide +kernel
theorem d_M_both_94 : decode b_M_both 94 = .ok (.aload_n 0, 1) := by decide +kernel
theorem d_M_both_95 : decode b_M_both 95 = .ok (.getfield 53, 3) := by decide +kernel
theorem d_M_both_98 : decode b_M_both 98 = .ok (.iconst 1, 1) := by decide +kernel
theorem d_M_both_99 : decode b_M_both 99 = .ok (.iload_n 1, 1) := by decide +kernel
theorem d_M_both_100 : decode b_M_both 100 = .ok (.isub, 1) := by decide +kernel
theorem d_M_both_101 : decode b_M_both 101 = .ok (.iaload, 1) := by decide +kernel
theorem d_M_both_102 : decode b_M_both 102 = .ok (.iconst 1, 1) := by decide +kernel
theorem d_M_both_103 : decode b_M_both 103 = .ok (.if_icmp .ne 13, 3) := by decide +kernel
theorem d_M_both_106 : decode b_M_both 106 = .ok (.aload_n 0, 1) := by decide +kernel
theorem d_M_both_107 : decode b_M_both 107 = .ok (.iload_n 1, 1) := by decide +kernel
theorem d_M_both_108 : decode b_M_both 108 = .ok (.lload 4, 2) := by decide +kernel
theorem d_M_both_110 : decode b_M_both 110 = .ok (.invokevirtual 242, 3) := by decide +kernel
theorem d_M_both_113 : decode b_M_both 113 = .ok (.goto 10, 3) := by decide +kernel
theorem d_M_both_116 : decode b_M_both 116 = .ok (.aload_n 0, 1) := by decide +kernel
theorem d_M_both_117 : decode b_M_both 117 = .ok (.iload_n 1, 1) := by decide +kernel
theorem d_M_both_118 : decode b_M_both 118 = .ok (.lload 4, 2) := by decide +kernel
theorem d_M_both_120 : decode b_M_both 120 = .ok (.invokevirtual 246, 3) := by decide +kernel
theorem d_M_both_123 : decode b_M_both 123 = .ok (.ireturn, 1) := by decide +kernel
theorem d_M_both_124 : decode b_M_both 124 = .ok (.aload_n 0, 1) := by decide +kernel
theorem d_M_both_125 : decode b_M_both 125 = .ok (.getfield 68, 3) := by decide +kernel
theorem d_M_both_128 : decode b_M_both 128 = .ok (.iconst 0, 1) := by decide +kernel
theorem d_M_both_129 : decode b_M_both 129 = .ok (.laload, 1) := by decide +kernel
theorem d_M_both_130 : decode b_M_both 130 = .ok (.aload_n 0, 1) := by decide +kernel
theorem d_M_both_131 : decode b_M_both 131 = .ok (.getfield 68, 3) := by decide +kernel
theorem d_M_both_134 : decode b_M_both 134 = .ok (.iconst 1, 1) := by decide +kernel
theorem d_M_both_135 : decode b_M_both 135 = .ok (.laload, 1) := by decide +kernel
theorem d_M_both_136 : decode b_M_both 136 = .ok (.invokestatic 222, 3) := by decide +kernel
theorem d_M_both_139 : decode b_M_both 139 = .ok (.aload_n 0, 1) := by decide +kernel
theorem d_M_both_140 : decode b_M_both 140 = .ok (.getfield 71, 3) := by decide +kernel
theorem d_M_both_143 : decode b_M_both 143 = .ok (.iconst 0, 1) := by decide +kernel
theorem d_M_both_144 : decode b_M_both 144 = .ok (.laload, 1) := by decide +kernel
theorem d_M_both_145 : decode b_M_both 145 = .ok (.aload_n 0, 1) := by decide +kernel
theorem d_M_both_146 : decode b_M_both 146 = .ok (.getfield 71, 3) := by decide +kernel
theorem d_M_both_149 : decode b_M_both 149 = .ok (.iconst 1, 1) := by decide +kernel
theorem d_M_both_150 : decode b_M_both 150 = .ok (.laload, 1) := by decide +kernel
theorem d_M_both_151 : decode b_M_both 151 = .ok (.invokestatic 219, 3) := by decide +kernel
theorem d_M_both_154 : decode b_M_both 154 = .ok (.lsub, 1) := by decide +kernel
theorem d_M_both_155 : decode b_M_both 155 = .ok (.invokestatic 186, 3) := by decide +kernel
theorem d_M_both_158 : decode b_M_both 158 = .ok (.istore_n 1, 1) := by decide +kernel
theorem d_M_both_159 : decode b_M_both 159 = .ok (.aload_n 0, 1) := by decide +kernel
theorem d_M_both_160 : decode b_M_both 160 = .ok (.invokevirtual 249, 3) := by decide +kernel
theorem d_M_both_163 : decode b_M_both 163 = .ok (.istore_n 2, 1) := by decide +kernel
theorem d_M_both_164 : decode b_M_both 164 = .ok (.iload_n 1, 1) := by decide +kernel
theorem d_M_both_165 : decode b_M_both 165 = .ok (.iload_n 2, 1) := by decide +kernel
theorem d_M_both_166 : decode b_M_both 166 = .ok (.if_icmp .ge 7, 3) := by decide +kernel
theorem d_M_both_169 : decode b_M_both 169 = .ok (.iload_n 1, 1) := by decide +kernel
theorem d_M_both_170 : decode b_M_both 170 = .ok (.goto 4, 3) := by decide +kernel
theorem d_M_both_173 : decode b_M_both 173 = .ok (.iload_n 2, 1) := by decide +kernel
theorem d_M_both_174 : decode b_M_both 174 = .ok (.ireturn, 1) := by decide +kernel
abbrev rm_M_both : Room := { frames := 4, cells := 0, slots := 0, locals := 138 }
theorem ce_M_both : gCe y_M_both (.code y_M_both b_M_both 6 (some .int)) 6 0 false := gCe.code wd_1003 wd_57 wd_1002 (by decide) (by decide +kernel)
def f_M_both (g0 : gG) (a0 : Nat) (w : gW) : gX Int32 := (gfA w a0 7 20).bind fun v1 => (gaI w v1 0).bind fun v3 => gjoin (fun K25 => if v3 = 3 then ((gfA w a0 7 20).bind fun v84 => (gaI w v84 1).bind fun v86 => if v86 = 3 then ((gck w a0 7).bind fun _ => gbind (f_M_tubes g0 a0 w) fun v93 w => some (.inr v93, w)) else (K25 w)) else (K25 w)) (fun (w : gW) => (gfA w a0 7 20).bind fun v5 => (gaI w v5 0).bind fun v7 => gjoin (fun K45 => if v7 = 3 then (K45 w) else ((gfA w a0 7 20).bind fun v46 => (gaI w v46 1).bind fun v48 => if v48 = 3 then (K45 w) else ((gfA w a0 7 25).bind fun v51 => (gaJ w v51 0).bind fun v53 => (gfA w a0 7 25).bind fun v55 => (gaJ w v55 1).bind fun v57 => gbind (f_M_greater g0 v53 v57 w) fun v61 w => (gfA w a0 7 26).bind fun v62 => (gaJ w v62 0).bind fun v64 => (gfA w a0 7 26).bind fun v66 => (gaJ w v66 1).bind fun v68 => gbind (f_M_lesser g0 v64 v68 w) fun v72 w => gbind (f_M_common g0 (v61 - v72) w) fun v75 w => (gck w a0 7).bind fun _ => gbind (f_M_bases g0 a0 w) fun v80 w => gjoin (fun K174 => if v80 ≤ v75 then (K174 v80 w) else (K174 v75 w)) (fun (y81 : Int32) (w : gW) => some (.inr y81, w))))) (fun (w : gW) => (gfA w a0 7 20).bind fun v9 => (gaI w v9 0).bind fun v11 => gjoin (fun K60 => if v11 = 3 then (K60 0 w) else (K60 1 w)) (fun (y13 : Int32) (w : gW) => (gck w a0 7).bind fun _ => gbind (f_M_heightGap g0 a0 w) fun v18 w => (gfA w a0 7 24).bind fun v19 => (gaJ w v19 y13).bind fun v21 => (gfA w a0 7 24).bind fun v23 => (gaJ w v23 y13).bind fun v25 => if 0 ≤ ((v21 * v25) - (v18 * v18)) then ((gfA w a0 7 20).bind fun v28 => (gaI w v28 (1 - y13)).bind fun v30 => gjoin (fun K123 => if v30 = 1 then ((gck w a0 7).bind fun _ => gbind (f_M_coreAndDisc g0 a0 y13 ((v21 * v25) - (v18 * v18)) w) fun v43 w => K123 v43 w) else ((gck w a0 7).bind fun _ => gbind (f_M_coreAndPolygon g0 a0 y13 ((v21 * v25) - (v18 * v18)) w) fun v38 w => K123 v38 w)) (fun (y32 : Int32) (w : gW) => some (.inr y32, w))) else (some (.inr 0, w)))))
set_option maxHeartbeats 4000000 in
set_option maxRecDepth 100000 in
theorem m_M_both (l : Launch) (hst : l.stackTraces = false) (D : gD) (g0 : gG) (a0 : Nat) (w : gW) (r : (String ⊕ Int32) × gW) (h : f_M_both g0 a0 w = some r) : gMet l y_M_both (.code y_M_both b_M_both 6 (some .int)) rm_M_both D g0 [.ref a0] w (goI r) := by
  refine gw_ofI (by decide +kernel) (Nat.le_of_ble_eq_true rfl) ?_
  intro p e s m below meth c ls args A Q hx hb hml hown hlocks hin hnt hT hK hZ hA hret hexc hthr hI hl
  obtain ⟨H, hH⟩ : ∃ H, H = s.heap := ⟨_, rfl⟩
  rw [← hH] at hI ⊢
  obtain ⟨locs, hlocs⟩ : ∃ z : List Loc, z = [] := ⟨_, rfl⟩
  rw [← hlocs] at hI ⊢
  have hl : lv_has ls 6 [(0, .ref a0)] := hl
  unfold f_M_both at h
  refine lv_aload_n hx hb d_M_both_0 rfl (lv_at hl 0 rfl) ?_
  obtain ⟨v1, e2, h⟩ := gb h
  refine gw_getA hx hb hT hown hK hI (ci := 7) rfl i_7 20 (by decide) wd_806 (fun _ h9 => h9) e2 d_M_both_1 ?_
  refine lv_iconst (v := 0) hx hb d_M_both_4 (by decide) ?_
  obtain ⟨v3, e4, h⟩ := gb h
  refine gw_aldI hx hb hK hI e4 d_M_both_5 ?_
  refine lv_iconst (v := 3) hx hb d_M_both_6 (by decide) ?_
  obtain ⟨K25, eK25, h⟩ := gj h
  have hK25 : ∀ (w : gW) (H : Heap) (locs : List Loc) (ls : Array Slot), K25 w = some r → gI D s A w H locs → lv_has ls 6 [(0, .ref a0)] → W p l e rm_M_both s m args below meth c H locs 0 0 Q (F0 m 25 ls []) := by
    intro w H locs ls h hI hl
    have h := gk1 eK25 h
    refine lv_aload_n hx hb d_M_both_25 rfl (lv_at hl 0 rfl) ?_
    obtain ⟨v5, e6, h⟩ := gb h
    refine gw_getA hx hb hT hown hK hI (ci := 7) rfl i_7 20 (by decide) wd_806 (fun _ h9 => h9) e6 d_M_both_26 ?_
    refine lv_iconst (v := 0) hx hb d_M_both_29 (by decide) ?_
    obtain ⟨v7, e8, h⟩ := gb h
    refine gw_aldI hx hb hK hI e8 d_M_both_30 ?_
    refine lv_iconst (v := 3) hx hb d_M_both_31 (by decide) ?_
    obtain ⟨K45, eK45, h⟩ := gj h
    have hK45 : ∀ (w : gW) (H : Heap) (locs : List Loc) (ls : Array Slot), K45 w = some r → gI D s A w H locs → lv_has ls 6 [(0, .ref a0)] → W p l e rm_M_both s m args below meth c H locs 0 0 Q (F0 m 45 ls []) := by
      intro w H locs ls h hI hl
      have h := gk1 eK45 h
      refine lv_aload_n hx hb d_M_both_45 rfl (lv_at hl 0 rfl) ?_
      obtain ⟨v9, e10, h⟩ := gb h
      refine gw_getA hx hb hT hown hK hI (ci := 7) rfl i_7 20 (by decide) wd_806 (fun _ h9 => h9) e10 d_M_both_46 ?_
      refine lv_iconst (v := 0) hx hb d_M_both_49 (by decide) ?_
      obtain ⟨v11, e12, h⟩ := gb h
      refine gw_aldI hx hb hK hI e12 d_M_both_50 ?_
      refine lv_iconst (v := 3) hx hb d_M_both_51 (by decide) ?_
      obtain ⟨K60, eK60, h⟩ := gj h
      have hK60 : ∀ (y13 : Int32) (w : gW) (H : Heap) (locs : List Loc) (ls : Array Slot), K60 y13 w = some r → gI D s A w H locs → lv_has ls 6 [(0, .ref a0)] → W p l e rm_M_both s m args below meth c H locs 0 0 Q (F0 m 60 ls [.int y13]) := by
        intro y13 w H locs ls h hI hl
        have h := gk2 eK60 h
        refine lv_istore_n (lv' := [(1, .int y13), (0, .ref a0)]) hx hb d_M_both_60 rfl hl (by decide) rfl (fun ls hl => ?_)
        refine lv_aload_n hx hb d_M_both_61 rfl (lv_at hl 1 rfl) ?_
        obtain ⟨q16, e17, h⟩ := gb h
        obtain ⟨u14, e15⟩ := gsome h
        refine gw_callJ e15 h (gw_runV (As := []) (rest := []) hx hb hml hown hT hK hZ hA hI (ci := 7) rfl e17 (m_M_heightGap l hst D g0 a0 w u14 e15) ce_M_heightGap wd_1014 wd_35 ⟨by decide, by decide⟩ rfl rfl hl.1 rfl (lv_room (Nat.le_of_ble_eq_true rfl)) d_M_both_62 ⟨(show 0 + 0 ≤ 0 by omega), (show 0 + 0 ≤ 0 by omega)⟩) hI hA hexc (show 0 + 0 ≤ 0 by omega) (show 0 + 0 ≤ 0 by omega) (fun v18 w H locs h hI => ?_)
        refine lv_lstore_n (lv' := [(2, .long v18), (1, .int y13), (0, .ref a0)]) hx hb d_M_both_65 rfl hl (by decide) rfl (fun ls hl => ?_)
        refine lv_aload_n hx hb d_M_both_66 rfl (lv_at hl 2 rfl) ?_
        obtain ⟨v19, e20, h⟩ := gb h
        refine gw_getA hx hb hT hown hK hI (ci := 7) rfl i_7 24 (by decide) wd_810 (fun _ h9 => h9) e20 d_M_both_67 ?_
        refine lv_iload_n hx hb d_M_both_70 rfl (lv_at hl 1 rfl) ?_
        obtain ⟨v21, e22, h⟩ := gb h
        refine gw_aldJ hx hb hK hI e22 d_M_both_71 ?_
        refine lv_aload_n hx hb d_M_both_72 rfl (lv_at hl 2 rfl) ?_
        obtain ⟨v23, e24, h⟩ := gb h
        refine gw_getA hx hb hT hown hK hI (ci := 7) rfl i_7 24 (by decide) wd_810 (fun _ h9 => h9) e24 d_M_both_73 ?_
        refine lv_iload_n hx hb d_M_both_76 rfl (lv_at hl 1 rfl) ?_
        obtain ⟨v25, e26, h⟩ := gb h
        refine gw_aldJ hx hb hK hI e26 d_M_both_77 ?_
        refine lv_lmul hx hb d_M_both_78 ?_
        refine lv_lload_n hx hb d_M_both_79 rfl (lv_at hl 0 rfl) ?_
        refine lv_lload_n hx hb d_M_both_80 rfl (lv_at hl 0 rfl) ?_
        refine lv_lmul hx hb d_M_both_81 ?_
        refine lv_lsub hx hb d_M_both_82 ?_
        refine lv_lstore (lv' := [(4, .long ((v21 * v25) - (v18 * v18))), (2, .long v18), (1, .int y13), (0, .ref a0)]) hx hb d_M_both_83 hl (by decide) rfl (fun ls hl => ?_)
        refine lv_lload hx hb d_M_both_85 (lv_at hl 0 rfl) ?_
        refine lv_lconst (v := 0) hx hb d_M_both_87 (by decide) ?_
        refine W.lcmp hx hb d_M_both_88 ?_
        refine lv_if_ge (tgt := 94) hx hb d_M_both_89 (by decide) (fun c27 => ?_) (fun c27 => ?_)
        · have c27 := (lg_cmp_ge _ _).mp c27
          have h := git c27 h
          refine lv_aload_n hx hb d_M_both_94 rfl (lv_at hl 3 rfl) ?_
          obtain ⟨v28, e29, h⟩ := gb h
          refine gw_getA hx hb hT hown hK hI (ci := 7) rfl i_7 20 (by decide) wd_806 (fun _ h9 => h9) e29 d_M_both_95 ?_
          refine lv_iconst (v := 1) hx hb d_M_both_98 (by decide) ?_
          refine lv_iload_n hx hb d_M_both_99 rfl (lv_at hl 2 rfl) ?_
          refine lv_isub hx hb d_M_both_100 ?_
          obtain ⟨v30, e31, h⟩ := gb h
          refine gw_aldI hx hb hK hI e31 d_M_both_101 ?_
          refine lv_iconst (v := 1) hx hb d_M_both_102 (by decide) ?_
          obtain ⟨K123, eK123, h⟩ := gj h
          have hK123 : ∀ (y32 : Int32) (w : gW) (H : Heap) (locs : List Loc) (ls : Array Slot), K123 y32 w = some r → gI D s A w H locs → lv_has ls 6 [] → W p l e rm_M_both s m args below meth c H locs 0 0 Q (F0 m 123 ls [.int y32]) := by
            intro y32 w H locs ls h hI hl
            have h := gk2 eK123 h
            exact W.widen (show 0 ≤ 0 by omega) (show 0 ≤ 0 by omega) (hret _ _ (Option.some.inj h).symm _ _ _ _ d_M_both_123 hI)
          refine lv_icmp_ne (tgt := 116) hx hb d_M_both_103 (by decide) (fun c33 => ?_) (fun c33 => ?_)
          · skip
            have h := gie c33 h
            refine lv_aload_n hx hb d_M_both_116 rfl (lv_at hl 3 rfl) ?_
            refine lv_iload_n hx hb d_M_both_117 rfl (lv_at hl 2 rfl) ?_
            refine lv_lload hx hb d_M_both_118 (lv_at hl 0 rfl) ?_
            obtain ⟨q36, e37, h⟩ := gb h
            obtain ⟨u34, e35⟩ := gsome h
            refine gw_callI e35 h (gw_runV (As := [.int y13, .long ((v21 * v25) - (v18 * v18))]) (rest := []) hx hb hml hown hT hK hZ hA hI (ci := 7) rfl e37 (m_M_coreAndPolygon l hst D g0 a0 y13 ((v21 * v25) - (v18 * v18)) w u34 e35) ce_M_coreAndPolygon wd_1036 wd_38 ⟨by decide, by decide⟩ rfl rfl hl.1 rfl (lv_room (Nat.le_of_ble_eq_true rfl)) d_M_both_120 ⟨(show 0 + 0 ≤ 0 by omega), (show 0 + 0 ≤ 0 by omega)⟩) hI hA hexc (show 0 + 0 ≤ 0 by omega) (show 0 + 0 ≤ 0 by omega) (fun v38 w H locs h hI => ?_)
            exact hK123 _ w H locs ls h hI (lv_sub hl [] rfl)
          · skip
            have h := git c33 h
            refine lv_aload_n hx hb d_M_both_106 rfl (lv_at hl 3 rfl) ?_
            refine lv_iload_n hx hb d_M_both_107 rfl (lv_at hl 2 rfl) ?_
            refine lv_lload hx hb d_M_both_108 (lv_at hl 0 rfl) ?_
            obtain ⟨q41, e42, h⟩ := gb h
            obtain ⟨u39, e40⟩ := gsome h
            refine gw_callI e40 h (gw_runV (As := [.int y13, .long ((v21 * v25) - (v18 * v18))]) (rest := []) hx hb hml hown hT hK hZ hA hI (ci := 7) rfl e42 (m_M_coreAndDisc l hst D g0 a0 y13 ((v21 * v25) - (v18 * v18)) w u39 e40) ce_M_coreAndDisc wd_1031 wd_37 ⟨by decide, by decide⟩ rfl rfl hl.1 rfl (lv_room (Nat.le_of_ble_eq_true rfl)) d_M_both_110 ⟨(show 0 + 0 ≤ 0 by omega), (show 0 + 0 ≤ 0 by omega)⟩) hI hA hexc (show 0 + 0 ≤ 0 by omega) (show 0 + 0 ≤ 0 by omega) (fun v43 w H locs h hI => ?_)
            refine lv_goto (tgt := 123) hx hb d_M_both_113 (by decide) ?_
            exact hK123 _ w H locs ls h hI (lv_sub hl [] rfl)
        · have c27 := mt (lg_cmp_ge _ _).mpr c27
          have h := gie c27 h
          refine lv_iconst (v := 0) hx hb d_M_both_92 (by decide) ?_
          exact W.widen (show 0 ≤ 0 by omega) (show 0 ≤ 0 by omega) (hret _ _ (Option.some.inj h).symm _ _ _ _ d_M_both_93 hI)
      refine lv_icmp_ne (tgt := 59) hx hb d_M_both_52 (by decide) (fun c44 => ?_) (fun c44 => ?_)
      · skip
        have h := gie c44 h
        refine lv_iconst (v := 1) hx hb d_M_both_59 (by decide) ?_
        exact hK60 _ w H locs ls h hI (lv_sub hl [0] rfl)
      · skip
        have h := git c44 h
        refine lv_iconst (v := 0) hx hb d_M_both_55 (by decide) ?_
        refine lv_goto (tgt := 60) hx hb d_M_both_56 (by decide) ?_
        exact hK60 _ w H locs ls h hI (lv_sub hl [0] rfl)
    refine lv_icmp_eq (tgt := 45) hx hb d_M_both_32 (by decide) (fun c45 => ?_) (fun c45 => ?_)
    · skip
      have h := git c45 h
      exact hK45 w H locs ls h hI (lv_sub hl [0] rfl)
    · skip
      have h := gie c45 h
      refine lv_aload_n hx hb d_M_both_35 rfl (lv_at hl 0 rfl) ?_
      obtain ⟨v46, e47, h⟩ := gb h
      refine gw_getA hx hb hT hown hK hI (ci := 7) rfl i_7 20 (by decide) wd_806 (fun _ h9 => h9) e47 d_M_both_36 ?_
      refine lv_iconst (v := 1) hx hb d_M_both_39 (by decide) ?_
      obtain ⟨v48, e49, h⟩ := gb h
      refine gw_aldI hx hb hK hI e49 d_M_both_40 ?_
      refine lv_iconst (v := 3) hx hb d_M_both_41 (by decide) ?_
      refine lv_icmp_ne (tgt := 124) hx hb d_M_both_42 (by decide) (fun c50 => ?_) (fun c50 => ?_)
      · skip
        have h := gie c50 h
        refine lv_aload_n hx hb d_M_both_124 rfl (lv_at hl 0 rfl) ?_
        obtain ⟨v51, e52, h⟩ := gb h
        refine gw_getA hx hb hT hown hK hI (ci := 7) rfl i_7 25 (by decide) wd_811 (fun _ h9 => h9) e52 d_M_both_125 ?_
        refine lv_iconst (v := 0) hx hb d_M_both_128 (by decide) ?_
        obtain ⟨v53, e54, h⟩ := gb h
        refine gw_aldJ hx hb hK hI e54 d_M_both_129 ?_
        refine lv_aload_n hx hb d_M_both_130 rfl (lv_at hl 0 rfl) ?_
        obtain ⟨v55, e56, h⟩ := gb h
        refine gw_getA hx hb hT hown hK hI (ci := 7) rfl i_7 25 (by decide) wd_811 (fun _ h9 => h9) e56 d_M_both_131 ?_
        refine lv_iconst (v := 1) hx hb d_M_both_134 (by decide) ?_
        obtain ⟨v57, e58, h⟩ := gb h
        refine gw_aldJ hx hb hK hI e58 d_M_both_135 ?_
        obtain ⟨u59, e60⟩ := gsome h
        refine gw_callJ e60 h (gw_runS (As := [.long v53, .long v57]) (rest := []) hx hb hml hown hT hK hZ hA hI (m_M_greater l hst D g0 v53 v57 w u59 e60) ce_M_greater wd_1011 ⟨by decide, by decide⟩ rfl rfl hl.1 rfl (lv_room (Nat.le_of_ble_eq_true rfl)) d_M_both_136 ⟨(show 0 + 0 ≤ 0 by omega), (show 0 + 0 ≤ 0 by omega)⟩) hI hA hexc (show 0 + 0 ≤ 0 by omega) (show 0 + 0 ≤ 0 by omega) (fun v61 w H locs h hI => ?_)
        refine lv_aload_n hx hb d_M_both_139 rfl (lv_at hl 0 rfl) ?_
        obtain ⟨v62, e63, h⟩ := gb h
        refine gw_getA hx hb hT hown hK hI (ci := 7) rfl i_7 26 (by decide) wd_812 (fun _ h9 => h9) e63 d_M_both_140 ?_
        refine lv_iconst (v := 0) hx hb d_M_both_143 (by decide) ?_
        obtain ⟨v64, e65, h⟩ := gb h
        refine gw_aldJ hx hb hK hI e65 d_M_both_144 ?_
        refine lv_aload_n hx hb d_M_both_145 rfl (lv_at hl 0 rfl) ?_
        obtain ⟨v66, e67, h⟩ := gb h
        refine gw_getA hx hb hT hown hK hI (ci := 7) rfl i_7 26 (by decide) wd_812 (fun _ h9 => h9) e67 d_M_both_146 ?_
        refine lv_iconst (v := 1) hx hb d_M_both_149 (by decide) ?_
        obtain ⟨v68, e69, h⟩ := gb h
        refine gw_aldJ hx hb hK hI e69 d_M_both_150 ?_
        obtain ⟨u70, e71⟩ := gsome h
        refine gw_callJ e71 h (gw_runS (As := [.long v64, .long v68]) (rest := [.long v61]) hx hb hml hown hT hK hZ hA hI (m_M_lesser l hst D g0 v64 v68 w u70 e71) ce_M_lesser wd_1008 ⟨by decide, by decide⟩ rfl rfl hl.1 rfl (lv_room (Nat.le_of_ble_eq_true rfl)) d_M_both_151 ⟨(show 0 + 0 ≤ 0 by omega), (show 0 + 0 ≤ 0 by omega)⟩) hI hA hexc (show 0 + 0 ≤ 0 by omega) (show 0 + 0 ≤ 0 by omega) (fun v72 w H locs h hI => ?_)
        refine lv_lsub hx hb d_M_both_154 ?_
        obtain ⟨u73, e74⟩ := gsome h
        refine gw_callI e74 h (gw_runS (As := [.long (v61 - v72)]) (rest := []) hx hb hml hown hT hK hZ hA hI (m_M_common l hst D g0 (v61 - v72) w u73 e74) ce_M_common wd_1028 ⟨by decide, by decide⟩ rfl rfl hl.1 rfl (lv_room (Nat.le_of_ble_eq_true rfl)) d_M_both_155 ⟨(show 0 + 0 ≤ 0 by omega), (show 0 + 0 ≤ 0 by omega)⟩) hI hA hexc (show 0 + 0 ≤ 0 by omega) (show 0 + 0 ≤ 0 by omega) (fun v75 w H locs h hI => ?_)
        refine lv_istore_n (lv' := [(1, .int v75), (0, .ref a0)]) hx hb d_M_both_158 rfl hl (by decide) rfl (fun ls hl => ?_)
        refine lv_aload_n hx hb d_M_both_159 rfl (lv_at hl 1 rfl) ?_
        obtain ⟨q78, e79, h⟩ := gb h
        obtain ⟨u76, e77⟩ := gsome h
        refine gw_callI e77 h (gw_runV (As := []) (rest := []) hx hb hml hown hT hK hZ hA hI (ci := 7) rfl e79 (m_M_bases l hst D g0 a0 w u76 e77) ce_M_bases wd_1055 wd_41 ⟨by decide, by decide⟩ rfl rfl hl.1 rfl (lv_room (Nat.le_of_ble_eq_true rfl)) d_M_both_160 ⟨(show 0 + 0 ≤ 0 by omega), (show 0 + 0 ≤ 0 by omega)⟩) hI hA hexc (show 0 + 0 ≤ 0 by omega) (show 0 + 0 ≤ 0 by omega) (fun v80 w H locs h hI => ?_)
        refine lv_istore_n (lv' := [(2, .int v80), (1, .int v75), (0, .ref a0)]) hx hb d_M_both_163 rfl hl (by decide) rfl (fun ls hl => ?_)
        refine lv_iload_n hx hb d_M_both_164 rfl (lv_at hl 1 rfl) ?_
        refine lv_iload_n hx hb d_M_both_165 rfl (lv_at hl 0 rfl) ?_
        obtain ⟨K174, eK174, h⟩ := gj h
        have hK174 : ∀ (y81 : Int32) (w : gW) (H : Heap) (locs : List Loc) (ls : Array Slot), K174 y81 w = some r → gI D s A w H locs → lv_has ls 6 [] → W p l e rm_M_both s m args below meth c H locs 0 0 Q (F0 m 174 ls [.int y81]) := by
          intro y81 w H locs ls h hI hl
          have h := gk2 eK174 h
          exact W.widen (show 0 ≤ 0 by omega) (show 0 ≤ 0 by omega) (hret _ _ (Option.some.inj h).symm _ _ _ _ d_M_both_174 hI)
        refine lv_icmp_ge (tgt := 173) hx hb d_M_both_166 (by decide) (fun c82 => ?_) (fun c82 => ?_)
        · skip
          have h := git c82 h
          refine lv_iload_n hx hb d_M_both_173 rfl (lv_at hl 0 rfl) ?_
          exact hK174 _ w H locs ls h hI (lv_sub hl [] rfl)
        · skip
          have h := gie c82 h
          refine lv_iload_n hx hb d_M_both_169 rfl (lv_at hl 1 rfl) ?_
          refine lv_goto (tgt := 174) hx hb d_M_both_170 (by decide) ?_
          exact hK174 _ w H locs ls h hI (lv_sub hl [] rfl)
      · skip
        have h := git c50 h
        exact hK45 w H locs ls h hI (lv_sub hl [0] rfl)
  refine lv_icmp_ne (tgt := 25) hx hb d_M_both_7 (by decide) (fun c83 => ?_) (fun c83 => ?_)
  · skip
    have h := gie c83 h
    exact hK25 w H locs ls h hI (lv_sub hl [0] rfl)
  · skip
    have h := git c83 h
    refine lv_aload_n hx hb d_M_both_10 rfl (lv_at hl 0 rfl) ?_
    obtain ⟨v84, e85, h⟩ := gb h
    refine gw_getA hx hb hT hown hK hI (ci := 7) rfl i_7 20 (by decide) wd_806 (fun _ h9 => h9) e85 d_M_both_11 ?_
    refine lv_iconst (v := 1) hx hb d_M_both_14 (by decide) ?_
    obtain ⟨v86, e87, h⟩ := gb h
    refine gw_aldI hx hb hK hI e87 d_M_both_15 ?_
    refine lv_iconst (v := 3) hx hb d_M_both_16 (by decide) ?_
    refine lv_icmp_ne (tgt := 25) hx hb d_M_both_17 (by decide) (fun c88 => ?_) (fun c88 => ?_)
    · skip
      have h := gie c88 h
      exact hK25 w H locs ls h hI (lv_sub hl [0] rfl)
    · skip
      have h := git c88 h
      refine lv_aload_n hx hb d_M_both_20 rfl (lv_at hl 0 rfl) ?_
      obtain ⟨q91, e92, h⟩ := gb h
      obtain ⟨u89, e90⟩ := gsome h
      refine gw_callI e90 h (gw_runV (As := []) (rest := []) hx hb hml hown hT hK hZ hA hI (ci := 7) rfl e92 (m_M_tubes l hst D g0 a0 w u89 e90) ce_M_tubes wd_1004 wd_34 ⟨by decide, by decide⟩ rfl rfl hl.1 rfl (lv_room (Nat.le_of_ble_eq_true rfl)) d_M_both_21 ⟨(show 0 + 0 ≤ 0 by omega), (show 0 + 0 ≤ 0 by omega)⟩) hI hA hexc (show 0 + 0 ≤ 0 by omega) (show 0 + 0 ≤ 0 by omega) (fun v93 w H locs h hI => ?_)
      exact W.widen (show 0 ≤ 0 by omega) (show 0 ≤ 0 by omega) (hret _ _ (Option.some.inj h).symm _ _ _ _ d_M_both_24 hI)

abbrev b_M_meet : ByteArray := prog_9_method_52_code
def y_M_meet : MethodName := ⟨"BodySolidsModel", "meet", "(II)I"⟩
theorem d_M_meet_0 : decode b_M_meet 0 = .ok (.iconst 0, 1) := by decide +kernel
theorem d_M_meet_1 : decode b_M_meet 1 = .ok (.istore_n 3, 1) := by decide +kernel
theorem d_M_meet_2 : decode b_M_meet 2 = .ok (.iconst 0, 1) := by decide +kernel
theorem d_M_meet_3 : decode b_M_meet 3 = .ok (.istore 4, 2) := by decide +kernel
theorem d_M_meet_5 : decode b_M_meet 5 = .ok (.iload 4, 2) := by decide +kernel
theorem d_M_meet_7 : decode b_M_meet 7 = .ok (.aload_n 0, 1) := by decide +kernel
theorem d_M_meet_8 : decode b_M_meet 8 = .ok (.getfield 7, 3) := by decide +kernel
theorem d_M_meet_11 : decode b_M_meet 11 = .ok (.aload_n 0, 1) := by decide +kernel
theorem d_M_meet_12 : decode b_M_meet 12 = .ok (.getfield 35, 3) := by decide +kernel
theorem d_M_meet_15 : decode b_M_meet 15 = .ok (.iload_n 1, 1) := by decide +kernel
theorem d_M_meet_16 : decode b_M_meet 16 = .ok (.iaload, 1) := by decide +kernel
theorem d_M_meet_17 : decode b_M_meet 17 = .ok (.iaload, 1) := by decide +kernel
theorem d_M_meet_18 : decode b_M_meet 18 = .ok (.if_icmp .ge 99, 3) := by decide +kernel
theorem d_M_meet_21 : decode b_M_meet 21 = .ok (.iload_n 3, 1) := by decide +kernel
theorem d_M_meet_22 : decode b_M_meet 22 = .ok (.iconst 2, 1) := by decide +kernel
theorem d_M_meet_23 : decode b_M_meet 23 = .ok (.if_icmp .ge 94, 3) := by decide +kernel
theorem d_M_meet_26 : decode b_M_meet 26 = .ok (.iconst 0, 1) := by decide +kernel
theorem d_M_meet_27 : decode b_M_meet 27 = .ok (.istore 5, 2) := by decide +kernel
theorem d_M_meet_29 : decode b_M_meet 29 = .ok (.iload 5, 2) := by decide +kernel
theorem d_M_meet_31 : decode b_M_meet 31 = .ok (.aload_n 0, 1) := by decide +kernel
theorem d_M_meet_32 : decode b_M_meet 32 = .ok (.getfield 7, 3) := by decide +kernel
theorem d_M_meet_35 : decode b_M_meet 35 = .ok (.aload_n 0, 1) := by decide +kernel
theorem d_M_meet_36 : decode b_M_meet 36 = .ok (.getfield 35, 3) := by decide +kernel
theorem d_M_meet_39 : decode b_M_meet 39 = .ok (.iload_n 2, 1) := by decide +kernel
theorem d_M_meet_40 : decode b_M_meet 40 = .ok (.iaload, 1) := by decide +kernel
theorem d_M_meet_41 : decode b_M_meet 41 = .ok (.iaload, 1) := by decide +kernel
theorem d_M_meet_42 : decode b_M_meet 42 = .ok (.if_icmp .ge 69, 3) := by decide +kernel
theorem d_M_meet_45 : decode b_M_meet 45 = .ok (.iload_n 3, 1) := by decide +kernel
theorem d_M_meet_46 : decode b_M_meet 46 = .ok (.iconst 2, 1) := by decide +kernel
theorem d_M_meet_47 : decode b_M_meet 47 = .ok (.if_icmp .ge 64, 3) := by decide +kernel
theorem d_M_meet_50 : decode b_M_meet 50 = .ok (.aload_n 0, 1) := by decide +kernel
theorem d_M_meet_51 : decode b_M_meet 51 = .ok (.iconst 0, 1) := by decide +kernel
theorem d_M_meet_52 : decode b_M_meet 52 = .ok (.iload_n 1, 1) := by decide +kernel
theorem d_M_meet_53 : decode b_M_meet 53 = .ok (.bipush 12, 2) := by decide +kernel
theorem d_M_meet_55 : decode b_M_meet 55 = .ok (.aload_n 0, 1) := by decide +kernel
theorem d_M_meet_56 : decode b_M_meet 56 = .ok (.getfield 35, 3) := by decide +kernel
theorem d_M_meet_59 : decode b_M_meet 59 = .ok (.iload_n 1, 1) := by decide +kernel
theorem d_M_meet_60 : decode b_M_meet 60 = .ok (.iaload, 1) := by decide +kernel
theorem d_M_meet_61 : decode b_M_meet 61 = .ok (.imul, 1) := by decide +kernel
theorem d_M_meet_62 : decode b_M_meet 62 = .ok (.iload 4, 2) := by decide +kernel
theorem d_M_meet_64 : decode b_M_meet 64 = .ok (.iadd, 1) := by decide +kernel
theorem d_M_meet_65 : decode b_M_meet 65 = .ok (.invokevirtual 252, 3) := by decide +kernel
theorem d_M_meet_68 : decode b_M_meet 68 = .ok (.aload_n 0, 1) := by decide +kernel
theorem d_M_meet_69 : decode b_M_meet 69 = .ok (.iconst 1, 1) := by decide +kernel
theorem d_M_meet_70 : decode b_M_meet 70 = .ok (.iload_n 2, 1) := by decide +kernel
theorem d_M_meet_71 : decode b_M_meet 71 = .ok (.bipush 12, 2) := by decide +kernel
theorem d_M_meet_73 : decode b_M_meet 73 = .ok (.aload_n 0, 1) := by decide +kernel
theorem d_M_meet_74 : decode b_M_meet 74 = .ok (.getfield 35, 3) := by decide +kernel
theorem d_M_meet_77 : decode b_M_meet 77 = .ok (.iload_n 2, 1) := by decide +kernel
theorem d_M_meet_78 : decode b_M_meet 78 = .ok (.iaload, 1) := by decide +kernel
theorem d_M_meet_79 : decode b_M_meet 79 = .ok (.imul, 1) := by decide +kernel
theorem d_M_meet_80 : decode b_M_meet 80 = .ok (.iload 5, 2) := by decide +kernel
theorem d_M_meet_82 : decode b_M_meet 82 = .ok (.iadd, 1) := by decide +kernel
theorem d_M_meet_83 : decode b_M_meet 83 = .ok (.invokevirtual 252, 3) := by decide +kernel
theorem d_M_meet_86 : decode b_M_meet 86 = .ok (.aload_n 0, 1) := by decide +kernel
theorem d_M_meet_87 : decode b_M_meet 87 = .ok (.invokevirtual 256, 3) := by decide +kernel
theorem d_M_meet_90 : decode b_M_meet 90 = .ok (.istore 6, 2) := by decide +kernel
theorem d_M_meet_92 : decode b_M_meet 92 = .ok (.iload 6, 2) := by decide +kernel
theorem d_M_meet_94 : decode b_M_meet 94 = .ok (.iload_n 3, 1) := by decide +kernel
theorem d_M_meet_95 : decode b_M_meet 95 = .ok (.if_icmp .le 8, 3) := by decide +kernel
theorem d_M_meet_98 : decode b_M_meet 98 = .ok (.iload 6, 2) := by decide +kernel
theorem d_M_meet_100 : decode b_M_meet 100 = .ok (.goto 4, 3) := by decide +kernel
theorem d_M_meet_103 : decode b_M_meet 103 = .ok (.iload_n 3, 1) := by decide +kernel
theorem d_M_meet_104 : decode b_M_meet 104 = .ok (.istore_n 3, 1) := by decide +kernel
theorem d_M_meet_105 : decode b_M_meet 105 = .ok (.iinc 5 1, 3) := by decide +kernel
theorem d_M_meet_108 : decode b_M_meet 108 = .ok (.goto (-79), 3) := by decide +kernel
theorem d_M_meet_111 : decode b_M_meet 111 = .ok (.iinc 4 1, 3) := by decide +kernel
theorem d_M_meet_114 : decode b_M_meet 114 = .ok (.goto (-109), 3) := by decide +kernel
theorem d_M_meet_117 : decode b_M_meet 117 = .ok (.iload_n 3, 1) := by decide +kernel
theorem d_M_meet_118 : decode b_M_meet 118 = .ok (.ireturn, 1) := by decide +kernel
abbrev rm_M_meet : Room := { frames := 5, cells := 0, slots := 0, locals := 163 }
theorem ce_M_meet : gCe y_M_meet (.code y_M_meet b_M_meet 7 (some .int)) 7 2 false := gCe.code wd_966 wd_57 wd_965 (by decide) (by decide +kernel)
def f_M_meet_L29 (g0 : gG) (c0 : Nat) (c1 : Int32) (c2 : Int32) (c4 : Int32) (K111 : Int32 → gW → gX Int32) : Nat → Int32 → Int32 → gW → gX Int32
  | 0, _, _, _ => none
  | n + 1, z3, z5, w => (gfA w c0 7 3).bind fun v13 => (gfA w c0 7 13).bind fun v15 => (gaI w v15 c2).bind fun v17 => (gaI w v13 v17).bind fun v19 => if v19 ≤ z5 then (K111 z3 w) else (if 2 ≤ z3 then (K111 z3 w) else ((gfA w c0 7 13).bind fun v23 => (gaI w v23 c1).bind fun v25 => (gck w c0 7).bind fun _ => gbind (f_M_lay g0 c0 0 c1 ((12 * v25) + c4) w) fun v31 w => (gfA w c0 7 13).bind fun v32 => (gaI w v32 c2).bind fun v34 => (gck w c0 7).bind fun _ => gbind (f_M_lay g0 c0 1 c2 ((12 * v34) + z5) w) fun v40 w => (gck w c0 7).bind fun _ => gbind (f_M_both g0 c0 w) fun v45 w => gjoin (fun K104 => if v45 ≤ z3 then (K104 z3 w) else (K104 v45 w)) (fun (y46 : Int32) (w : gW) => f_M_meet_L29 g0 c0 c1 c2 c4 K111 n y46 (z5 + 1) w)))
def f_M_meet_L5 (g0 : gG) (c0 : Nat) (c1 : Int32) (c2 : Int32) (K117 : Int32 → gW → gX Int32) : Nat → Int32 → Int32 → gW → gX Int32
  | 0, _, _, _ => none
  | n + 1, z3, z4, w => (gfA w c0 7 3).bind fun v2 => (gfA w c0 7 13).bind fun v4 => (gaI w v4 c1).bind fun v6 => (gaI w v2 v6).bind fun v8 => if v8 ≤ z4 then (K117 z3 w) else (if 2 ≤ z3 then (K117 z3 w) else (gjoin (fun K111 => f_M_meet_L29 g0 c0 c1 c2 z4 K111 64 z3 0 w) (fun (x12 : Int32) (w : gW) => f_M_meet_L5 g0 c0 c1 c2 K117 n x12 (z4 + 1) w)))
def f_M_meet (g0 : gG) (a0 : Nat) (p1 : Int32) (p2 : Int32) (w : gW) : gX Int32 := gjoin (fun K117 => f_M_meet_L5 g0 a0 p1 p2 K117 64 0 0 w) (fun (x1 : Int32) (w : gW) => some (.inr x1, w))
set_option maxHeartbeats 4000000 in
set_option maxRecDepth 100000 in
theorem m_M_meet (l : Launch) (hst : l.stackTraces = false) (D : gD) (g0 : gG) (a0 : Nat) (p1 : Int32) (p2 : Int32) (w : gW) (r : (String ⊕ Int32) × gW) (h : f_M_meet g0 a0 p1 p2 w = some r) : gMet l y_M_meet (.code y_M_meet b_M_meet 7 (some .int)) rm_M_meet D g0 [.ref a0, .int p1, .int p2] w (goI r) := by
  refine gw_ofI (by decide +kernel) (Nat.le_of_ble_eq_true rfl) ?_
  intro p e s m below meth c ls args A Q hx hb hml hown hlocks hin hnt hT hK hZ hA hret hexc hthr hI hl
  obtain ⟨H, hH⟩ : ∃ H, H = s.heap := ⟨_, rfl⟩
  rw [← hH] at hI ⊢
  obtain ⟨locs, hlocs⟩ : ∃ z : List Loc, z = [] := ⟨_, rfl⟩
  rw [← hlocs] at hI ⊢
  have hl : lv_has ls 7 [(0, .ref a0), (1, .int p1), (2, .int p2)] := hl
  unfold f_M_meet at h
  refine lv_iconst (v := 0) hx hb d_M_meet_0 (by decide) ?_
  refine lv_istore_n (lv' := [(3, .int 0), (0, .ref a0), (1, .int p1), (2, .int p2)]) hx hb d_M_meet_1 rfl hl (by decide) rfl (fun ls hl => ?_)
  refine lv_iconst (v := 0) hx hb d_M_meet_2 (by decide) ?_
  refine lv_istore (lv' := [(4, .int 0), (3, .int 0), (0, .ref a0), (1, .int p1), (2, .int p2)]) hx hb d_M_meet_3 hl (by decide) rfl (fun ls hl => ?_)
  obtain ⟨K117, eK117, h⟩ := gj h
  have hK117 : ∀ (x1 : Int32) (w : gW) (H : Heap) (locs : List Loc) (ls : Array Slot), K117 x1 w = some r → gI D s A w H locs → lv_has ls 7 [(3, .int x1)] → W p l e rm_M_meet s m args below meth c H locs 0 0 Q (F0 m 117 ls []) := by
    intro x1 w H locs ls h hI hl
    have h := gk2 eK117 h
    refine lv_iload_n hx hb d_M_meet_117 rfl (lv_at hl 0 rfl) ?_
    exact W.widen (show 0 ≤ 0 by omega) (show 0 ≤ 0 by omega) (hret _ _ (Option.some.inj h).symm _ _ _ _ d_M_meet_118 hI)
  have hL5 : ∀ (n : Nat), ∀ (z2 : Int32) (z3 : Int32) (w : gW) (H : Heap) (locs : List Loc) (ls : Array Slot), f_M_meet_L5 g0 a0 p1 p2 K117 n z2 z3 w = some r → gI D s A w H locs → lv_has ls 7 [(0, .ref a0), (1, .int p1), (2, .int p2), (3, .int z2), (4, .int z3)] → W p l e rm_M_meet s m args below meth c H locs 0 0 Q (F0 m 5 ls []) := by
    intro n
    induction n with
    | zero => intro z2 z3 w H locs ls h hI hl; exact absurd h (by simp [f_M_meet_L5])
    | succ n ih =>
      intro z2 z3 w H locs ls h hI hl
      rw [f_M_meet_L5] at h
      refine lv_iload hx hb d_M_meet_5 (lv_at hl 4 rfl) ?_
      refine lv_aload_n hx hb d_M_meet_7 rfl (lv_at hl 0 rfl) ?_
      obtain ⟨v4, e5, h⟩ := gb h
      refine gw_getA hx hb hT hown hK hI (ci := 7) rfl i_7 3 (by decide) wd_789 (fun _ h9 => h9) e5 d_M_meet_8 ?_
      refine lv_aload_n hx hb d_M_meet_11 rfl (lv_at hl 0 rfl) ?_
      obtain ⟨v6, e7, h⟩ := gb h
      refine gw_getA hx hb hT hown hK hI (ci := 7) rfl i_7 13 (by decide) wd_799 (fun _ h9 => h9) e7 d_M_meet_12 ?_
      refine lv_iload_n hx hb d_M_meet_15 rfl (lv_at hl 1 rfl) ?_
      obtain ⟨v8, e9, h⟩ := gb h
      refine gw_aldI hx hb hK hI e9 d_M_meet_16 ?_
      obtain ⟨v10, e11, h⟩ := gb h
      refine gw_aldI hx hb hK hI e11 d_M_meet_17 ?_
      refine lv_icmp_ge (tgt := 117) hx hb d_M_meet_18 (by decide) (fun c12 => ?_) (fun c12 => ?_)
      · skip
        have h := git c12 h
        exact hK117 _ w H locs ls h hI (lv_sub hl [3] rfl)
      · skip
        have h := gie c12 h
        refine lv_iload_n hx hb d_M_meet_21 rfl (lv_at hl 3 rfl) ?_
        refine lv_iconst (v := 2) hx hb d_M_meet_22 (by decide) ?_
        refine lv_icmp_ge (tgt := 117) hx hb d_M_meet_23 (by decide) (fun c13 => ?_) (fun c13 => ?_)
        · skip
          have h := git c13 h
          exact hK117 _ w H locs ls h hI (lv_sub hl [3] rfl)
        · skip
          have h := gie c13 h
          refine lv_iconst (v := 0) hx hb d_M_meet_26 (by decide) ?_
          refine lv_istore (lv' := [(5, .int 0), (0, .ref a0), (1, .int p1), (2, .int p2), (3, .int z2), (4, .int z3)]) hx hb d_M_meet_27 hl (by decide) rfl (fun ls hl => ?_)
          obtain ⟨K111, eK111, h⟩ := gj h
          have hK111 : ∀ (x14 : Int32) (w : gW) (H : Heap) (locs : List Loc) (ls : Array Slot), K111 x14 w = some r → gI D s A w H locs → lv_has ls 7 [(0, .ref a0), (1, .int p1), (2, .int p2), (3, .int x14), (4, .int z3)] → W p l e rm_M_meet s m args below meth c H locs 0 0 Q (F0 m 111 ls []) := by
            intro x14 w H locs ls h hI hl
            have h := gk2 eK111 h
            refine lv_iinc (v := z3 + 1) (lv' := [(4, .int (z3 + 1)), (0, .ref a0), (1, .int p1), (2, .int p2), (3, .int x14)]) hx hb d_M_meet_111 hl (k := 4) rfl rfl (by decide) rfl (fun ls hl => ?_)
            refine lv_goto (tgt := 5) hx hb d_M_meet_114 (by decide) ?_
            exact ih _ _ w H locs ls h hI (lv_sub hl [1, 2, 3, 4, 0] rfl)
          have hL29 : ∀ (n : Nat), ∀ (z15 : Int32) (z16 : Int32) (w : gW) (H : Heap) (locs : List Loc) (ls : Array Slot), f_M_meet_L29 g0 a0 p1 p2 z3 K111 n z15 z16 w = some r → gI D s A w H locs → lv_has ls 7 [(0, .ref a0), (1, .int p1), (2, .int p2), (4, .int z3), (3, .int z15), (5, .int z16)] → W p l e rm_M_meet s m args below meth c H locs 0 0 Q (F0 m 29 ls []) := by
            intro n
            induction n with
            | zero => intro z15 z16 w H locs ls h hI hl; exact absurd h (by simp [f_M_meet_L29])
            | succ n ih =>
              intro z15 z16 w H locs ls h hI hl
              rw [f_M_meet_L29] at h
              refine lv_iload hx hb d_M_meet_29 (lv_at hl 5 rfl) ?_
              refine lv_aload_n hx hb d_M_meet_31 rfl (lv_at hl 0 rfl) ?_
              obtain ⟨v17, e18, h⟩ := gb h
              refine gw_getA hx hb hT hown hK hI (ci := 7) rfl i_7 3 (by decide) wd_789 (fun _ h9 => h9) e18 d_M_meet_32 ?_
              refine lv_aload_n hx hb d_M_meet_35 rfl (lv_at hl 0 rfl) ?_
              obtain ⟨v19, e20, h⟩ := gb h
              refine gw_getA hx hb hT hown hK hI (ci := 7) rfl i_7 13 (by decide) wd_799 (fun _ h9 => h9) e20 d_M_meet_36 ?_
              refine lv_iload_n hx hb d_M_meet_39 rfl (lv_at hl 2 rfl) ?_
              obtain ⟨v21, e22, h⟩ := gb h
              refine gw_aldI hx hb hK hI e22 d_M_meet_40 ?_
              obtain ⟨v23, e24, h⟩ := gb h
              refine gw_aldI hx hb hK hI e24 d_M_meet_41 ?_
              refine lv_icmp_ge (tgt := 111) hx hb d_M_meet_42 (by decide) (fun c25 => ?_) (fun c25 => ?_)
              · skip
                have h := git c25 h
                exact hK111 _ w H locs ls h hI (lv_sub hl [0, 1, 2, 4, 3] rfl)
              · skip
                have h := gie c25 h
                refine lv_iload_n hx hb d_M_meet_45 rfl (lv_at hl 4 rfl) ?_
                refine lv_iconst (v := 2) hx hb d_M_meet_46 (by decide) ?_
                refine lv_icmp_ge (tgt := 111) hx hb d_M_meet_47 (by decide) (fun c26 => ?_) (fun c26 => ?_)
                · skip
                  have h := git c26 h
                  exact hK111 _ w H locs ls h hI (lv_sub hl [0, 1, 2, 4, 3] rfl)
                · skip
                  have h := gie c26 h
                  refine lv_aload_n hx hb d_M_meet_50 rfl (lv_at hl 0 rfl) ?_
                  refine lv_iconst (v := 0) hx hb d_M_meet_51 (by decide) ?_
                  refine lv_iload_n hx hb d_M_meet_52 rfl (lv_at hl 1 rfl) ?_
                  refine lv_bipush (v := 12) hx hb d_M_meet_53 (by decide) ?_
                  refine lv_aload_n hx hb d_M_meet_55 rfl (lv_at hl 0 rfl) ?_
                  obtain ⟨v27, e28, h⟩ := gb h
                  refine gw_getA hx hb hT hown hK hI (ci := 7) rfl i_7 13 (by decide) wd_799 (fun _ h9 => h9) e28 d_M_meet_56 ?_
                  refine lv_iload_n hx hb d_M_meet_59 rfl (lv_at hl 1 rfl) ?_
                  obtain ⟨v29, e30, h⟩ := gb h
                  refine gw_aldI hx hb hK hI e30 d_M_meet_60 ?_
                  refine lv_imul hx hb d_M_meet_61 ?_
                  refine lv_iload hx hb d_M_meet_62 (lv_at hl 3 rfl) ?_
                  refine lv_iadd hx hb d_M_meet_64 ?_
                  obtain ⟨q33, e34, h⟩ := gb h
                  obtain ⟨u31, e32⟩ := gsome h
                  refine gw_callV e32 h (gw_runV (As := [.int 0, .int p1, .int ((12 * v29) + z3)]) (rest := []) hx hb hml hown hT hK hZ hA hI (ci := 7) rfl e34 (m_M_lay l hst D g0 a0 0 p1 ((12 * v29) + z3) w u31 e32) ce_M_lay wd_967 wd_25 ⟨by decide, by decide⟩ rfl rfl hl.1 rfl (lv_room (Nat.le_of_ble_eq_true rfl)) d_M_meet_65 ⟨(show 0 + 0 ≤ 0 by omega), (show 0 + 0 ≤ 0 by omega)⟩) hI hA hexc (show 0 + 0 ≤ 0 by omega) (show 0 + 0 ≤ 0 by omega) (fun v35 w H locs h hI => ?_)
                  refine lv_aload_n hx hb d_M_meet_68 rfl (lv_at hl 0 rfl) ?_
                  refine lv_iconst (v := 1) hx hb d_M_meet_69 (by decide) ?_
                  refine lv_iload_n hx hb d_M_meet_70 rfl (lv_at hl 2 rfl) ?_
                  refine lv_bipush (v := 12) hx hb d_M_meet_71 (by decide) ?_
                  refine lv_aload_n hx hb d_M_meet_73 rfl (lv_at hl 0 rfl) ?_
                  obtain ⟨v36, e37, h⟩ := gb h
                  refine gw_getA hx hb hT hown hK hI (ci := 7) rfl i_7 13 (by decide) wd_799 (fun _ h9 => h9) e37 d_M_meet_74 ?_
                  refine lv_iload_n hx hb d_M_meet_77 rfl (lv_at hl 2 rfl) ?_
                  obtain ⟨v38, e39, h⟩ := gb h
                  refine gw_aldI hx hb hK hI e39 d_M_meet_78 ?_
                  refine lv_imul hx hb d_M_meet_79 ?_
                  refine lv_iload hx hb d_M_meet_80 (lv_at hl 5 rfl) ?_
                  refine lv_iadd hx hb d_M_meet_82 ?_
                  obtain ⟨q42, e43, h⟩ := gb h
                  obtain ⟨u40, e41⟩ := gsome h
                  refine gw_callV e41 h (gw_runV (As := [.int 1, .int p2, .int ((12 * v38) + z16)]) (rest := []) hx hb hml hown hT hK hZ hA hI (ci := 7) rfl e43 (m_M_lay l hst D g0 a0 1 p2 ((12 * v38) + z16) w u40 e41) ce_M_lay wd_967 wd_25 ⟨by decide, by decide⟩ rfl rfl hl.1 rfl (lv_room (Nat.le_of_ble_eq_true rfl)) d_M_meet_83 ⟨(show 0 + 0 ≤ 0 by omega), (show 0 + 0 ≤ 0 by omega)⟩) hI hA hexc (show 0 + 0 ≤ 0 by omega) (show 0 + 0 ≤ 0 by omega) (fun v44 w H locs h hI => ?_)
                  refine lv_aload_n hx hb d_M_meet_86 rfl (lv_at hl 0 rfl) ?_
                  obtain ⟨q47, e48, h⟩ := gb h
                  obtain ⟨u45, e46⟩ := gsome h
                  refine gw_callI e46 h (gw_runV (As := []) (rest := []) hx hb hml hown hT hK hZ hA hI (ci := 7) rfl e48 (m_M_both l hst D g0 a0 w u45 e46) ce_M_both wd_1000 wd_33 ⟨by decide, by decide⟩ rfl rfl hl.1 rfl (lv_room (Nat.le_of_ble_eq_true rfl)) d_M_meet_87 ⟨(show 0 + 0 ≤ 0 by omega), (show 0 + 0 ≤ 0 by omega)⟩) hI hA hexc (show 0 + 0 ≤ 0 by omega) (show 0 + 0 ≤ 0 by omega) (fun v49 w H locs h hI => ?_)
                  refine lv_istore (lv' := [(6, .int v49), (0, .ref a0), (1, .int p1), (2, .int p2), (4, .int z3), (3, .int z15), (5, .int z16)]) hx hb d_M_meet_90 hl (by decide) rfl (fun ls hl => ?_)
                  refine lv_iload hx hb d_M_meet_92 (lv_at hl 0 rfl) ?_
                  refine lv_iload_n hx hb d_M_meet_94 rfl (lv_at hl 5 rfl) ?_
                  obtain ⟨K104, eK104, h⟩ := gj h
                  have hK104 : ∀ (y50 : Int32) (w : gW) (H : Heap) (locs : List Loc) (ls : Array Slot), K104 y50 w = some r → gI D s A w H locs → lv_has ls 7 [(0, .ref a0), (1, .int p1), (2, .int p2), (4, .int z3), (5, .int z16)] → W p l e rm_M_meet s m args below meth c H locs 0 0 Q (F0 m 104 ls [.int y50]) := by
                    intro y50 w H locs ls h hI hl
                    have h := gk2 eK104 h
                    refine lv_istore_n (lv' := [(3, .int y50), (0, .ref a0), (1, .int p1), (2, .int p2), (4, .int z3), (5, .int z16)]) hx hb d_M_meet_104 rfl hl (by decide) rfl (fun ls hl => ?_)
                    refine lv_iinc (v := z16 + 1) (lv' := [(5, .int (z16 + 1)), (3, .int y50), (0, .ref a0), (1, .int p1), (2, .int p2), (4, .int z3)]) hx hb d_M_meet_105 hl (k := 5) rfl rfl (by decide) rfl (fun ls hl => ?_)
                    refine lv_goto (tgt := 29) hx hb d_M_meet_108 (by decide) ?_
                    exact ih _ _ w H locs ls h hI (lv_sub hl [2, 3, 4, 5, 1, 0] rfl)
                  refine lv_icmp_le (tgt := 103) hx hb d_M_meet_95 (by decide) (fun c51 => ?_) (fun c51 => ?_)
                  · skip
                    have h := git c51 h
                    refine lv_iload_n hx hb d_M_meet_103 rfl (lv_at hl 5 rfl) ?_
                    exact hK104 _ w H locs ls h hI (lv_sub hl [1, 2, 3, 4, 6] rfl)
                  · skip
                    have h := gie c51 h
                    refine lv_iload hx hb d_M_meet_98 (lv_at hl 0 rfl) ?_
                    refine lv_goto (tgt := 104) hx hb d_M_meet_100 (by decide) ?_
                    exact hK104 _ w H locs ls h hI (lv_sub hl [1, 2, 3, 4, 6] rfl)
          exact hL29 64 _ _ w H locs ls h hI (lv_sub hl [1, 2, 3, 5, 4, 0] rfl)
  exact hL5 64 _ _ w H locs ls h hI (lv_sub hl [2, 3, 4, 1, 0] rfl)

abbrev b_M_clash : ByteArray := prog_9_method_53_code
def y_M_clash : MethodName := ⟨"BodySolidsModel", "clash", "(II)I"⟩
theorem d_M_clash_0 : decode b_M_clash 0 = .ok (.aload_n 0, 1) := by decide +kernel
theorem d_M_clash_1 : decode b_M_clash 1 = .ok (.aload_n 0, 1) := by decide +kernel
theorem d_M_clash_2 : decode b_M_clash 2 = .ok (.iload_n 1, 1) := by decide +kernel
theorem d_M_clash_3 : decode b_M_clash 3 = .ok (.invokevirtual 150, 3) := by decide +kernel
theorem d_M_clash_6 : decode b_M_clash 6 = .ok (.ifCond .eq 15, 3) := by decide +kernel
theorem d_M_clash_9 : decode b_M_clash 9 = .ok (.aload_n 0, 1) := by decide +kernel
theorem d_M_clash_10 : decode b_M_clash 10 = .ok (.iload_n 2, 1) := by decide +kernel
theorem d_M_clash_11 : decode b_M_clash 11 = .ok (.invokevirtual 150, 3) := by decide +kernel
theorem d_M_clash_14 : decode b_M_clash 14 = .ok (.ifCond .eq 7, 3) := by decide +kernel
theorem d_M_clash_17 : decode b_M_clash 17 = .ok (.iconst 0, 1) := by decide +kernel
theorem d_M_clash_18 : decode b_M_clash 18 = .ok (.goto 4, 3) := by decide +kernel
theorem d_M_clash_21 : decode b_M_clash 21 = .ok (.iconst 1, 1) := by decide +kernel
theorem d_M_clash_22 : decode b_M_clash 22 = .ok (.putfield 80, 3) := by decide +kernel
theorem d_M_clash_25 : decode b_M_clash 25 = .ok (.aload_n 0, 1) := by decide +kernel
theorem d_M_clash_26 : decode b_M_clash 26 = .ok (.getfield 80, 3) := by decide +kernel
theorem d_M_clash_29 : decode b_M_clash 29 = .ok (.ifCond .ne 8, 3) := by decide +kernel
theorem d_M_clash_32 : decode b_M_clash 32 = .ok (.iload_n 1, 1) := by decide +kernel
theorem d_M_clash_33 : decode b_M_clash 33 = .ok (.iload_n 2, 1) := by decide +kernel
theorem d_M_clash_34 : decode b_M_clash 34 = .ok (.if_icmp .ne 5, 3) := by decide +kernel
theorem d_M_clash_37 : decode b_M_clash 37 = .ok (.iconst 0, 1) := by decide +kernel
theorem d_M_clash_38 : decode b_M_clash 38 = .ok (.ireturn, 1) := by decide +kernel
theorem d_M_clash_39 : decode b_M_clash 39 = .ok (.aload_n 0, 1) := by decide +kernel
theorem d_M_clash_40 : decode b_M_clash 40 = .ok (.iload_n 1, 1) := by decide +kernel
theorem d_M_clash_41 : decode b_M_clash 41 = .ok (.iload_n 2, 1) := by decide +kernel
theorem d_M_clash_42 : decode b_M_clash 42 = .ok (.invokevirtual 259, 3) := by decide +kernel
theorem d_M_clash_45 : decode b_M_clash 45 = .ok (.istore_n 3, 1) := by decide +kernel
theorem d_M_clash_46 : decode b_M_clash 46 = .ok (.iload_n 3, 1) := by decide +kernel
theorem d_M_clash_47 : decode b_M_clash 47 = .ok (.iconst 2, 1) := by decide +kernel
theorem d_M_clash_48 : decode b_M_clash 48 = .ok (.if_icmp .ne 7, 3) := by decide +kernel
theorem d_M_clash_51 : decode b_M_clash 51 = .ok (.iconst 1, 1) := by decide +kernel
theorem d_M_clash_52 : decode b_M_clash 52 = .ok (.goto 13, 3) := by decide +kernel
theorem d_M_clash_55 : decode b_M_clash 55 = .ok (.iload_n 3, 1) := by decide +kernel
theorem d_M_clash_56 : decode b_M_clash 56 = .ok (.iconst 1, 1) := by decide +kernel
theorem d_M_clash_57 : decode b_M_clash 57 = .ok (.if_icmp .ne 7, 3) := by decide +kernel
theorem d_M_clash_60 : decode b_M_clash 60 = .ok (.iconst 2, 1) := by decide +kernel
theorem d_M_clash_61 : decode b_M_clash 61 = .ok (.goto 4, 3) := by decide +kernel
theorem d_M_clash_64 : decode b_M_clash 64 = .ok (.iconst 0, 1) := by decide +kernel
theorem d_M_clash_65 : decode b_M_clash 65 = .ok (.ireturn, 1) := by decide +kernel
abbrev rm_M_clash : Room := { frames := 6, cells := 0, slots := 0, locals := 189 }
theorem ce_M_clash : gCe y_M_clash (.code y_M_clash b_M_clash 4 (some .int)) 4 2 false := gCe.code wd_962 wd_57 wd_960 (by decide) (by decide +kernel)
def f_M_clash (g0 : gG) (a0 : Nat) (p1 : Int32) (p2 : Int32) (w : gW) : gX Int32 := (gck w a0 7).bind fun _ => gbind (f_M_isPlaced g0 a0 p1 w) fun v5 w => gjoin (fun K22 => gjoin (fun K21 => if v5 = 0 then (K21 w) else ((gck w a0 7).bind fun _ => gbind (f_M_isPlaced g0 a0 p2 w) fun v25 w => if v25 = 0 then (K21 w) else (K22 0 w))) (fun (w : gW) => K22 1 w)) (fun (y6 : Int32) (w : gW) => (gp w a0 7 0 (.int y6)).bind fun w => (gfI w a0 7 0).bind fun v8 => gjoin (fun K37 => if v8 = 0 then (if p1 = p2 then (K37 w) else ((gck w a0 7).bind fun _ => gbind (f_M_meet g0 a0 p1 p2 w) fun v16 w => gjoin (fun K65 => if v16 = 2 then (K65 1 w) else (if v16 = 1 then (K65 2 w) else (K65 0 w))) (fun (y17 : Int32) (w : gW) => some (.inr y17, w)))) else (K37 w)) (fun (w : gW) => some (.inr 0, w)))
set_option maxHeartbeats 4000000 in
set_option maxRecDepth 100000 in
theorem m_M_clash (l : Launch) (hst : l.stackTraces = false) (D : gD) (g0 : gG) (a0 : Nat) (p1 : Int32) (p2 : Int32) (w : gW) (r : (String ⊕ Int32) × gW) (h : f_M_clash g0 a0 p1 p2 w = some r) : gMet l y_M_clash (.code y_M_clash b_M_clash 4 (some .int)) rm_M_clash D g0 [.ref a0, .int p1, .int p2] w (goI r) := by
  refine gw_ofI (by decide +kernel) (Nat.le_of_ble_eq_true rfl) ?_
  intro p e s m below meth c ls args A Q hx hb hml hown hlocks hin hnt hT hK hZ hA hret hexc hthr hI hl
  obtain ⟨H, hH⟩ : ∃ H, H = s.heap := ⟨_, rfl⟩
  rw [← hH] at hI ⊢
  obtain ⟨locs, hlocs⟩ : ∃ z : List Loc, z = [] := ⟨_, rfl⟩
  rw [← hlocs] at hI ⊢
  have hl : lv_has ls 4 [(0, .ref a0), (1, .int p1), (2, .int p2)] := hl
  unfold f_M_clash at h
  refine lv_aload_n hx hb d_M_clash_0 rfl (lv_at hl 0 rfl) ?_
  refine lv_aload_n hx hb d_M_clash_1 rfl (lv_at hl 0 rfl) ?_
  refine lv_iload_n hx hb d_M_clash_2 rfl (lv_at hl 1 rfl) ?_
  obtain ⟨q3, e4, h⟩ := gb h
  obtain ⟨u1, e2⟩ := gsome h
  refine gw_callI e2 h (gw_runV (As := [.int p1]) (rest := [.ref a0]) hx hb hml hown hT hK hZ hA hI (ci := 7) rfl e4 (m_M_isPlaced l hst D g0 a0 p1 w u1 e2) ce_M_isPlaced wd_955 wd_23 ⟨by decide, by decide⟩ rfl rfl hl.1 rfl (lv_room (Nat.le_of_ble_eq_true rfl)) d_M_clash_3 ⟨(show 0 + 0 ≤ 0 by omega), (show 0 + 0 ≤ 0 by omega)⟩) hI hA hexc (show 0 + 0 ≤ 0 by omega) (show 0 + 0 ≤ 0 by omega) (fun v5 w H locs h hI => ?_)
  obtain ⟨K22, eK22, h⟩ := gj h
  have hK22 : ∀ (y6 : Int32) (w : gW) (H : Heap) (locs : List Loc) (ls : Array Slot), K22 y6 w = some r → gI D s A w H locs → lv_has ls 4 [(0, .ref a0), (1, .int p1), (2, .int p2)] → W p l e rm_M_clash s m args below meth c H locs 0 0 Q (F0 m 22 ls [.int y6, .ref a0]) := by
    intro y6 w H locs ls h hI hl
    have h := gk2 eK22 h
    obtain ⟨w, e7, h⟩ := gb h
    refine gw_put hx hb hT hown hK hI (ci := 7) rfl i_7 t_7 t_7_ok n_7 0 (by decide) wd_786 (fun _ h9 => h9) rfl (ty := .int) (by decide +kernel) rfl rfl e7 d_M_clash_22 (fun H locs hI => ?_)
    refine lv_aload_n hx hb d_M_clash_25 rfl (lv_at hl 0 rfl) ?_
    obtain ⟨v8, e9, h⟩ := gb h
    refine gw_getI hx hb hT hown hK hI (ci := 7) rfl i_7 0 (by decide) wd_786 (fun _ h9 => h9) e9 d_M_clash_26 ?_
    obtain ⟨K37, eK37, h⟩ := gj h
    have hK37 : ∀ (w : gW) (H : Heap) (locs : List Loc) (ls : Array Slot), K37 w = some r → gI D s A w H locs → lv_has ls 4 [] → W p l e rm_M_clash s m args below meth c H locs 0 0 Q (F0 m 37 ls []) := by
      intro w H locs ls h hI hl
      have h := gk1 eK37 h
      refine lv_iconst (v := 0) hx hb d_M_clash_37 (by decide) ?_
      exact W.widen (show 0 ≤ 0 by omega) (show 0 ≤ 0 by omega) (hret _ _ (Option.some.inj h).symm _ _ _ _ d_M_clash_38 hI)
    refine lv_if_ne (tgt := 37) hx hb d_M_clash_29 (by decide) (fun c10 => ?_) (fun c10 => ?_)
    · skip
      have h := gie c10 h
      exact hK37 w H locs ls h hI (lv_sub hl [] rfl)
    · skip
      have h := git c10 h
      refine lv_iload_n hx hb d_M_clash_32 rfl (lv_at hl 1 rfl) ?_
      refine lv_iload_n hx hb d_M_clash_33 rfl (lv_at hl 2 rfl) ?_
      refine lv_icmp_ne (tgt := 39) hx hb d_M_clash_34 (by decide) (fun c11 => ?_) (fun c11 => ?_)
      · skip
        have h := gie c11 h
        refine lv_aload_n hx hb d_M_clash_39 rfl (lv_at hl 0 rfl) ?_
        refine lv_iload_n hx hb d_M_clash_40 rfl (lv_at hl 1 rfl) ?_
        refine lv_iload_n hx hb d_M_clash_41 rfl (lv_at hl 2 rfl) ?_
        obtain ⟨q14, e15, h⟩ := gb h
        obtain ⟨u12, e13⟩ := gsome h
        refine gw_callI e13 h (gw_runV (As := [.int p1, .int p2]) (rest := []) hx hb hml hown hT hK hZ hA hI (ci := 7) rfl e15 (m_M_meet l hst D g0 a0 p1 p2 w u12 e13) ce_M_meet wd_963 wd_24 ⟨by decide, by decide⟩ rfl rfl hl.1 rfl (lv_room (Nat.le_of_ble_eq_true rfl)) d_M_clash_42 ⟨(show 0 + 0 ≤ 0 by omega), (show 0 + 0 ≤ 0 by omega)⟩) hI hA hexc (show 0 + 0 ≤ 0 by omega) (show 0 + 0 ≤ 0 by omega) (fun v16 w H locs h hI => ?_)
        refine lv_istore_n (lv' := [(3, .int v16), (0, .ref a0), (1, .int p1), (2, .int p2)]) hx hb d_M_clash_45 rfl hl (by decide) rfl (fun ls hl => ?_)
        refine lv_iload_n hx hb d_M_clash_46 rfl (lv_at hl 0 rfl) ?_
        refine lv_iconst (v := 2) hx hb d_M_clash_47 (by decide) ?_
        obtain ⟨K65, eK65, h⟩ := gj h
        have hK65 : ∀ (y17 : Int32) (w : gW) (H : Heap) (locs : List Loc) (ls : Array Slot), K65 y17 w = some r → gI D s A w H locs → lv_has ls 4 [] → W p l e rm_M_clash s m args below meth c H locs 0 0 Q (F0 m 65 ls [.int y17]) := by
          intro y17 w H locs ls h hI hl
          have h := gk2 eK65 h
          exact W.widen (show 0 ≤ 0 by omega) (show 0 ≤ 0 by omega) (hret _ _ (Option.some.inj h).symm _ _ _ _ d_M_clash_65 hI)
        refine lv_icmp_ne (tgt := 55) hx hb d_M_clash_48 (by decide) (fun c18 => ?_) (fun c18 => ?_)
        · skip
          have h := gie c18 h
          refine lv_iload_n hx hb d_M_clash_55 rfl (lv_at hl 0 rfl) ?_
          refine lv_iconst (v := 1) hx hb d_M_clash_56 (by decide) ?_
          refine lv_icmp_ne (tgt := 64) hx hb d_M_clash_57 (by decide) (fun c19 => ?_) (fun c19 => ?_)
          · skip
            have h := gie c19 h
            refine lv_iconst (v := 0) hx hb d_M_clash_64 (by decide) ?_
            exact hK65 _ w H locs ls h hI (lv_sub hl [] rfl)
          · skip
            have h := git c19 h
            refine lv_iconst (v := 2) hx hb d_M_clash_60 (by decide) ?_
            refine lv_goto (tgt := 65) hx hb d_M_clash_61 (by decide) ?_
            exact hK65 _ w H locs ls h hI (lv_sub hl [] rfl)
        · skip
          have h := git c18 h
          refine lv_iconst (v := 1) hx hb d_M_clash_51 (by decide) ?_
          refine lv_goto (tgt := 65) hx hb d_M_clash_52 (by decide) ?_
          exact hK65 _ w H locs ls h hI (lv_sub hl [] rfl)
      · skip
        have h := git c11 h
        exact hK37 w H locs ls h hI (lv_sub hl [] rfl)
  obtain ⟨K21, eK21, h⟩ := gj h
  have hK21 : ∀ (w : gW) (H : Heap) (locs : List Loc) (ls : Array Slot), K21 w = some r → gI D s A w H locs → lv_has ls 4 [(0, .ref a0), (1, .int p1), (2, .int p2)] → W p l e rm_M_clash s m args below meth c H locs 0 0 Q (F0 m 21 ls [.ref a0]) := by
    intro w H locs ls h hI hl
    have h := gk1 eK21 h
    refine lv_iconst (v := 1) hx hb d_M_clash_21 (by decide) ?_
    exact hK22 _ w H locs ls h hI (lv_sub hl [0, 1, 2] rfl)
  refine lv_if_eq (tgt := 21) hx hb d_M_clash_6 (by decide) (fun c20 => ?_) (fun c20 => ?_)
  · skip
    have h := git c20 h
    exact hK21 w H locs ls h hI (lv_sub hl [0, 1, 2] rfl)
  · skip
    have h := gie c20 h
    refine lv_aload_n hx hb d_M_clash_9 rfl (lv_at hl 0 rfl) ?_
    refine lv_iload_n hx hb d_M_clash_10 rfl (lv_at hl 2 rfl) ?_
    obtain ⟨q23, e24, h⟩ := gb h
    obtain ⟨u21, e22⟩ := gsome h
    refine gw_callI e22 h (gw_runV (As := [.int p2]) (rest := [.ref a0]) hx hb hml hown hT hK hZ hA hI (ci := 7) rfl e24 (m_M_isPlaced l hst D g0 a0 p2 w u21 e22) ce_M_isPlaced wd_955 wd_23 ⟨by decide, by decide⟩ rfl rfl hl.1 rfl (lv_room (Nat.le_of_ble_eq_true rfl)) d_M_clash_11 ⟨(show 0 + 0 ≤ 0 by omega), (show 0 + 0 ≤ 0 by omega)⟩) hI hA hexc (show 0 + 0 ≤ 0 by omega) (show 0 + 0 ≤ 0 by omega) (fun v25 w H locs h hI => ?_)
    refine lv_if_eq (tgt := 21) hx hb d_M_clash_14 (by decide) (fun c26 => ?_) (fun c26 => ?_)
    · skip
      have h := git c26 h
      exact hK21 w H locs ls h hI (lv_sub hl [0, 1, 2] rfl)
    · skip
      have h := gie c26 h
      refine lv_iconst (v := 0) hx hb d_M_clash_17 (by decide) ?_
      refine lv_goto (tgt := 22) hx hb d_M_clash_18 (by decide) ?_
      exact hK22 _ w H locs ls h hI (lv_sub hl [0, 1, 2] rfl)

abbrev b_M_thrown : ByteArray := prog_9_method_2_code
def y_M_thrown : MethodName := ⟨"BodySolidsModel", "thrown", "()I"⟩
theorem d_M_thrown_0 : decode b_M_thrown 0 = .ok (.aload_n 0, 1) := by decide +kernel
theorem d_M_thrown_1 : decode b_M_thrown 1 = .ok (.getfield 80, 3) := by decide +kernel
theorem d_M_thrown_4 : decode b_M_thrown 4 = .ok (.ireturn, 1) := by decide +kernel
abbrev rm_M_thrown : Room := { frames := 0, cells := 0, slots := 0, locals := 0 }
theorem ce_M_thrown : gCe y_M_thrown (.code y_M_thrown b_M_thrown 1 (some .int)) 1 0 false := gCe.code wd_871 wd_57 wd_869 (by decide) (by decide +kernel)
def f_M_thrown (g0 : gG) (a0 : Nat) (w : gW) : gX Int32 := (gfI w a0 7 0).bind fun v1 => some (.inr v1, w)
set_option maxHeartbeats 4000000 in
set_option maxRecDepth 100000 in
theorem m_M_thrown (l : Launch) (hst : l.stackTraces = false) (D : gD) (g0 : gG) (a0 : Nat) (w : gW) (r : (String ⊕ Int32) × gW) (h : f_M_thrown g0 a0 w = some r) : gMet l y_M_thrown (.code y_M_thrown b_M_thrown 1 (some .int)) rm_M_thrown D g0 [.ref a0] w (goI r) := by
  refine gw_ofI (by decide +kernel) (Nat.le_of_ble_eq_true rfl) ?_
  intro p e s m below meth c ls args A Q hx hb hml hown hlocks hin hnt hT hK hZ hA hret hexc hthr hI hl
  obtain ⟨H, hH⟩ : ∃ H, H = s.heap := ⟨_, rfl⟩
  rw [← hH] at hI ⊢
  obtain ⟨locs, hlocs⟩ : ∃ z : List Loc, z = [] := ⟨_, rfl⟩
  rw [← hlocs] at hI ⊢
  have hl : lv_has ls 1 [(0, .ref a0)] := hl
  unfold f_M_thrown at h
  refine lv_aload_n hx hb d_M_thrown_0 rfl (lv_at hl 0 rfl) ?_
  obtain ⟨v1, e2, h⟩ := gb h
  refine gw_getI hx hb hT hown hK hI (ci := 7) rfl i_7 0 (by decide) wd_786 (fun _ h9 => h9) e2 d_M_thrown_1 ?_
  exact W.widen (show 0 ≤ 0 by omega) (show 0 ≤ 0 by omega) (hret _ _ (Option.some.inj h).symm _ _ _ _ d_M_thrown_4 hI)
