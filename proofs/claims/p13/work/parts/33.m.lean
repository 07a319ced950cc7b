abbrev b_Me_of : ByteArray := prog_5_method_2_code
def y_Me_of : MethodName := ⟨"BodySolids$Meeting", "of", "(LBodySolids$Solid;LBodySolids$Solid;)I"⟩
theorem d_Me_of_0 : decode b_Me_of 0 = .ok (.aload_n 0, 1) := by decide +kernel
theorem d_Me_of_1 : decode b_Me_of 1 = .ok (.getfield 9, 3) := by decide +kernel
theorem d_Me_of_4 : decode b_Me_of 4 = .ok (.aload_n 1, 1) := by decide +kernel
theorem d_Me_of_5 : decode b_Me_of 5 = .ok (.getfield 9, 3) := by decide +kernel
theorem d_Me_of_8 : decode b_Me_of 8 = .ok (.ladd, 1) := by decide +kernel
theorem d_Me_of_9 : decode b_Me_of 9 = .ok (.lstore_n 2, 1) := by decide +kernel
theorem d_Me_of_10 : decode b_Me_of 10 = .ok (.aload_n 0, 1) := by decide +kernel
theorem d_Me_of_11 : decode b_Me_of 11 = .ok (.getfield 15, 3) := by decide +kernel
theorem d_Me_of_14 : decode b_Me_of 14 = .ok (.aload_n 1, 1) := by decide +kernel
theorem d_Me_of_15 : decode b_Me_of 15 = .ok (.getfield 15, 3) := by decide +kernel
theorem d_Me_of_18 : decode b_Me_of 18 = .ok (.ladd, 1) := by decide +kernel
theorem d_Me_of_19 : decode b_Me_of 19 = .ok (.lstore 4, 2) := by decide +kernel
theorem d_Me_of_21 : decode b_Me_of 21 = .ok (.aload_n 0, 1) := by decide +kernel
theorem d_Me_of_22 : decode b_Me_of 22 = .ok (.getfield 18, 3) := by decide +kernel
theorem d_Me_of_25 : decode b_Me_of 25 = .ok (.aload_n 0, 1) := by decide +kernel
theorem d_Me_of_26 : decode b_Me_of 26 = .ok (.getfield 21, 3) := by decide +kernel
theorem d_Me_of_29 : decode b_Me_of 29 = .ok (.aload_n 1, 1) := by decide +kernel
theorem d_Me_of_30 : decode b_Me_of 30 = .ok (.getfield 18, 3) := by decide +kernel
theorem d_Me_of_33 : decode b_Me_of 33 = .ok (.aload_n 1, 1) := by decide +kernel
theorem d_Me_of_34 : decode b_Me_of 34 = .ok (.getfield 21, 3) := by decide +kernel
theorem d_Me_of_37 : decode b_Me_of 37 = .ok (.invokestatic 24, 3) := by decide +kernel
theorem d_Me_of_40 : decode b_Me_of 40 = .ok (.lstore 6, 2) := by decide +kernel
theorem d_Me_of_42 : decode b_Me_of 42 = .ok (.aload_n 0, 1) := by decide +kernel
theorem d_Me_of_43 : decode b_Me_of 43 = .ok (.getfield 30, 3) := by decide +kernel
theorem d_Me_of_46 : decode b_Me_of 46 = .ok (.aload_n 0, 1) := by decide +kernel
theorem d_Me_of_47 : decode b_Me_of 47 = .ok (.getfield 33, 3) := by decide +kernel
theorem d_Me_of_50 : decode b_Me_of 50 = .ok (.aload_n 1, 1) := by decide +kernel
theorem d_Me_of_51 : decode b_Me_of 51 = .ok (.getfield 30, 3) := by decide +kernel
theorem d_Me_of_54 : decode b_Me_of 54 = .ok (.aload_n 1, 1) := by decide +kernel
theorem d_Me_of_55 : decode b_Me_of 55 = .ok (.getfield 33, 3) := by decide +kernel
theorem d_Me_of_58 : decode b_Me_of 58 = .ok (.invokestatic 24, 3) := by decide +kernel
theorem d_Me_of_61 : decode b_Me_of 61 = .ok (.lstore 8, 2) := by decide +kernel
theorem d_Me_of_63 : decode b_Me_of 63 = .ok (.aload_n 0, 1) := by decide +kernel
theorem d_Me_of_64 : decode b_Me_of 64 = .ok (.getfield 36, 3) := by decide +kernel
theorem d_Me_of_67 : decode b_Me_of 67 = .ok (.aload_n 0, 1) := by decide +kernel
theorem d_Me_of_68 : decode b_Me_of 68 = .ok (.getfield 39, 3) := by decide +kernel
theorem d_Me_of_71 : decode b_Me_of 71 = .ok (.aload_n 1, 1) := by decide +kernel
theorem d_Me_of_72 : decode b_Me_of 72 = .ok (.getfield 36, 3) := by decide +kernel
theorem d_Me_of_75 : decode b_Me_of 75 = .ok (.aload_n 1, 1) := by decide +kernel
theorem d_Me_of_76 : decode b_Me_of 76 = .ok (.getfield 39, 3) := by decide +kernel
theorem d_Me_of_79 : decode b_Me_of 79 = .ok (.invokestatic 24, 3) := by decide +kernel
theorem d_Me_of_82 : decode b_Me_of 82 = .ok (.lstore 10, 2) := by decide +kernel
theorem d_Me_of_84 : decode b_Me_of 84 = .ok (.lload 6, 2) := by decide +kernel
theorem d_Me_of_86 : decode b_Me_of 86 = .ok (.lload_n 2, 1) := by decide +kernel
theorem d_Me_of_87 : decode b_Me_of 87 = .ok (.lload 4, 2) := by decide +kernel
theorem d_Me_of_89 : decode b_Me_of 89 = .ok (.ladd, 1) := by decide +kernel
theorem d_Me_of_90 : decode b_Me_of 90 = .ok (.lcmp, 1) := by decide +kernel
theorem d_Me_of_91 : decode b_Me_of 91 = .ok (.ifCond .gt 21, 3) := by decide +kernel
theorem d_Me_of_94 : decode b_Me_of 94 = .ok (.lload 8, 2) := by decide +kernel
theorem d_Me_of_96 : decode b_Me_of 96 = .ok (.lload_n 2, 1) := by decide +kernel
theorem d_Me_of_97 : decode b_Me_of 97 = .ok (.lload 4, 2) := by decide +kernel
theorem d_Me_of_99 : decode b_Me_of 99 = .ok (.ladd, 1) := by decide +kernel
theorem d_Me_of_100 : decode b_Me_of 100 = .ok (.lcmp, 1) := by decide +kernel
theorem d_Me_of_101 : decode b_Me_of 101 = .ok (.ifCond .gt 11, 3) := by decide +kernel
theorem d_Me_of_104 : decode b_Me_of 104 = .ok (.lload 10, 2) := by decide +kernel
theorem d_Me_of_106 : decode b_Me_of 106 = .ok (.lload 4, 2) := by decide +kernel
theorem d_Me_of_108 : decode b_Me_of 108 = .ok (.lcmp, 1) := by decide +kernel
theorem d_Me_of_109 : decode b_Me_of 109 = .ok (.ifCond .le 5, 3) := by decide +kernel
theorem d_Me_of_112 : decode b_Me_of 112 = .ok (.iconst 1, 1) := by decide +kernel
theorem d_Me_of_113 : decode b_Me_of 113 = .ok (.ireturn, 1) := by decide +kernel
theorem d_Me_of_114 : decode b_Me_of 114 = .ok (.lload 4, 2) := by decide +kernel
theorem d_Me_of_116 : decode b_Me_of 116 = .ok (.lconst 0, 1) := by decide +kernel
theorem d_Me_of_117 : decode b_Me_of 117 = .ok (.lcmp, 1) := by decide +kernel
theorem d_Me_of_118 : decode b_Me_of 118 = .ok (.ifCond .ne 38, 3) := by decide +kernel
theorem d_Me_of_121 : decode b_Me_of 121 = .ok (.lload_n 2, 1) := by decide +kernel
theorem d_Me_of_122 : decode b_Me_of 122 = .ok (.lconst 0, 1) := by decide +kernel
theorem d_Me_of_123 : decode b_Me_of 123 = .ok (.lcmp, 1) := by decide +kernel
theorem d_Me_of_124 : decode b_Me_of 124 = .ok (.ifCond .ne 11, 3) := by decide +kernel
theorem d_Me_of_127 : decode b_Me_of 127 = .ok (.aload_n 0, 1) := by decide +kernel
theorem d_Me_of_128 : decode b_Me_of 128 = .ok (.aload_n 1, 1) := by decide +kernel
theorem d_Me_of_129 : decode b_Me_of 129 = .ok (.invokestatic 42, 3) := by decide +kernel
theorem d_Me_of_132 : decode b_Me_of 132 = .ok (.goto 11, 3) := by decide +kernel
theorem d_Me_of_135 : decode b_Me_of 135 = .ok (.aload_n 0, 1) := by decide +kernel
theorem d_Me_of_136 : decode b_Me_of 136 = .ok (.aload_n 1, 1) := by decide +kernel
theorem d_Me_of_137 : decode b_Me_of 137 = .ok (.lload_n 2, 1) := by decide +kernel
theorem d_Me_of_138 : decode b_Me_of 138 = .ok (.lload_n 2, 1) := by decide +kernel
theorem d_Me_of_139 : decode b_Me_of 139 = .ok (.lmul, 1) := by decide +kernel
theorem d_Me_of_140 : decode b_Me_of 140 = .ok (.invokestatic 46, 3) := by decide +kernel
theorem d_Me_of_143 : decode b_Me_of 143 = .ok (.istore 12, 2) := by decide +kernel
theorem d_Me_of_145 : decode b_Me_of 145 = .ok (.iload 12, 2) := by decide +kernel
theorem d_Me_of_147 : decode b_Me_of 147 = .ok (.lload 10, 2) := by decide +kernel
theorem d_Me_of_149 : decode b_Me_of 149 = .ok (.invokestatic 50, 3) := by decide +kernel
theorem d_Me_of_152 : decode b_Me_of 152 = .ok (.invokestatic 54, 3) := by decide +kernel
theorem d_Me_of_155 : decode b_Me_of 155 = .ok (.ireturn, 1) := by decide +kernel
theorem d_Me_of_156 : decode b_Me_of 156 = .ok (.lload 4, 2) := by decide +kernel
theorem d_Me_of_158 : decode b_Me_of 158 = .ok (.lload 4, 2) := by decide +kernel
theorem d_Me_of_160 : decode b_Me_of 160 = .ok (.lmul, 1) := by decide +kernel
theorem d_Me_of_161 : decode b_Me_of 161 = .ok (.lload 10, 2) := by decide +kernel
theorem d_Me_of_163 : decode b_Me_of 163 = .ok (.invokestatic 60, 3) := by decide +kernel
theorem d_Me_of_166 : decode b_Me_of 166 = .ok (.lsub, 1) := by decide +kernel
theorem d_Me_of_167 : decode b_Me_of 167 = .ok (.lstore 12, 2) := by decide +kernel
theorem d_Me_of_169 : decode b_Me_of 169 = .ok (.lload_n 2, 1) := by decide +kernel
theorem d_Me_of_170 : decode b_Me_of 170 = .ok (.lconst 0, 1) := by decide +kernel
theorem d_Me_of_171 : decode b_Me_of 171 = .ok (.lcmp, 1) := by decide +kernel
theorem d_Me_of_172 : decode b_Me_of 172 = .ok (.ifCond .ne 11, 3) := by decide +kernel
theorem d_Me_of_175 : decode b_Me_of 175 = .ok (.aload_n 0, 1) := by decide +kernel
theorem d_Me_of_176 : decode b_Me_of 176 = .ok (.aload_n 1, 1) := by decide +kernel
theorem d_Me_of_177 : decode b_Me_of 177 = .ok (.lload 12, 2) := by decide +kernel
theorem d_Me_of_179 : decode b_Me_of 179 = .ok (.invokestatic 46, 3) := by decide +kernel
theorem d_Me_of_182 : decode b_Me_of 182 = .ok (.ireturn, 1) := by decide +kernel
theorem d_Me_of_183 : decode b_Me_of 183 = .ok (.lload 6, 2) := by decide +kernel
theorem d_Me_of_185 : decode b_Me_of 185 = .ok (.invokestatic 60, 3) := by decide +kernel
theorem d_Me_of_188 : decode b_Me_of 188 = .ok (.lload 8, 2) := by decide +kernel
theorem d_Me_of_190 : decode b_Me_of 190 = .ok (.invokestatic 60, 3) := by decide +kernel
theorem d_Me_of_193 : decode b_Me_of 193 = .ok (.ladd, 1) := by decide +kernel
theorem d_Me_of_194 : decode b_Me_of 194 = .ok (.lload_n 2, 1) := by decide +kernel
theorem d_Me_of_195 : decode b_Me_of 195 = .ok (.lload 12, 2) := by decide +kernel
theorem d_Me_of_197 : decode b_Me_of 197 = .ok (.invokestatic 64, 3) := by decide +kernel
theorem d_Me_of_200 : decode b_Me_of 200 = .ok (.ireturn, 1) := by decide +kernel
abbrev rm_Me_of : Room := { frames := 4, cells := 0, slots := 0, locals := 114 }
theorem ce_Me_of : gCe y_Me_of (.code y_Me_of b_Me_of 14 (some .int)) 14 2 true := gCe.code wd_375 wd_69 wd_374 (by decide) (by decide +kernel)
def f_Me_of (g0 : gG) (a0 : Nat) (a1 : Nat) (w : gW) : gX Int32 := (gfJ w a0 3 1).bind fun v1 => (gfJ w a1 3 1).bind fun v3 => (gfJ w a0 3 2).bind fun v5 => (gfJ w a1 3 2).bind fun v7 => (gfJ w a0 3 6).bind fun v9 => (gfJ w a0 3 9).bind fun v11 => (gfJ w a1 3 6).bind fun v13 => (gfJ w a1 3 9).bind fun v15 => gbind (f_Me_gap g0 v9 v11 v13 v15 w) fun v19 w => (gfJ w a0 3 7).bind fun v20 => (gfJ w a0 3 10).bind fun v22 => (gfJ w a1 3 7).bind fun v24 => (gfJ w a1 3 10).bind fun v26 => gbind (f_Me_gap g0 v20 v22 v24 v26 w) fun v30 w => (gfJ w a0 3 8).bind fun v31 => (gfJ w a0 3 11).bind fun v33 => (gfJ w a1 3 8).bind fun v35 => (gfJ w a1 3 11).bind fun v37 => gbind (f_Me_gap g0 v31 v33 v35 v37 w) fun v41 w => gjoin (fun K112 => if ((v1 + v3) + (v5 + v7)) < v19 then (K112 w) else (if ((v1 + v3) + (v5 + v7)) < v30 then (K112 w) else (if v41 ≤ (v5 + v7) then (if (v5 + v7) = 0 then (gjoin (fun K143 => if (v1 + v3) = 0 then (gbind (f_Me_outlines g0 a0 a1 w) fun v75 w => K143 v75 w) else (gbind (f_Me_distance g0 a0 a1 ((v1 + v3) * (v1 + v3)) w) fun v72 w => K143 v72 w)) (fun (y62 : Int32) (w : gW) => gbind (f_Me_sign g0 v41 w) fun v65 w => gbind (f_Ma_max g0 y62 v65 w) fun v68 w => some (.inr v68, w))) else (gbind (f_Me_squareIfAbove g0 v41 w) fun v48 w => if (v1 + v3) = 0 then (gbind (f_Me_distance g0 a0 a1 (((v5 + v7) * (v5 + v7)) - v48) w) fun v61 w => some (.inr v61, w)) else (gbind (f_Me_squareIfAbove g0 v19 w) fun v52 w => gbind (f_Me_squareIfAbove g0 v30 w) fun v55 w => gbind (f_Me_discAndRound g0 (v52 + v55) (v1 + v3) (((v5 + v7) * (v5 + v7)) - v48) w) fun v58 w => some (.inr v58, w)))) else (K112 w)))) (fun (w : gW) => some (.inr 1, w))
set_option maxHeartbeats 4000000 in
set_option maxRecDepth 100000 in
theorem m_Me_of (l : Launch) (hst : l.stackTraces = false) (D : gD) (g0 : gG) (a0 : Nat) (a1 : Nat) (w : gW) (r : (String ⊕ Int32) × gW) (h : f_Me_of g0 a0 a1 w = some r) : gMet l y_Me_of (.code y_Me_of b_Me_of 14 (some .int)) rm_Me_of D g0 [.ref a0, .ref a1] w (goI r) := by
  refine gw_ofI (by decide +kernel) (Nat.le_of_ble_eq_true rfl) ?_
  intro p e s m below meth c ls args A Q hx hb hml hown hlocks hin hnt hT hK hZ hA hret hexc hthr hI hl
  obtain ⟨H, hH⟩ : ∃ H, H = s.heap := ⟨_, rfl⟩
  rw [← hH] at hI ⊢
  obtain ⟨locs, hlocs⟩ : ∃ z : List Loc, z = [] := ⟨_, rfl⟩
  rw [← hlocs] at hI ⊢
  have hl : lv_has ls 14 [(0, .ref a0), (1, .ref a1)] := hl
  unfold f_Me_of at h
  refine lv_aload_n hx hb d_Me_of_0 rfl (lv_at hl 0 rfl) ?_
  obtain ⟨v1, e2, h⟩ := gb h
  refine gw_getJ hx hb hT hown hK hI (ci := 3) rfl i_3 1 (by decide) wd_131 (fun _ h9 => h9) e2 d_Me_of_1 ?_
  refine lv_aload_n hx hb d_Me_of_4 rfl (lv_at hl 1 rfl) ?_
  obtain ⟨v3, e4, h⟩ := gb h
  refine gw_getJ hx hb hT hown hK hI (ci := 3) rfl i_3 1 (by decide) wd_131 (fun _ h9 => h9) e4 d_Me_of_5 ?_
  refine lv_ladd hx hb d_Me_of_8 ?_
  refine lv_lstore_n (lv' := [(2, .long (v1 + v3)), (0, .ref a0), (1, .ref a1)]) hx hb d_Me_of_9 rfl hl (by decide) rfl (fun ls hl => ?_)
  refine lv_aload_n hx hb d_Me_of_10 rfl (lv_at hl 1 rfl) ?_
  obtain ⟨v5, e6, h⟩ := gb h
  refine gw_getJ hx hb hT hown hK hI (ci := 3) rfl i_3 2 (by decide) wd_133 (fun _ h9 => h9) e6 d_Me_of_11 ?_
  refine lv_aload_n hx hb d_Me_of_14 rfl (lv_at hl 2 rfl) ?_
  obtain ⟨v7, e8, h⟩ := gb h
  refine gw_getJ hx hb hT hown hK hI (ci := 3) rfl i_3 2 (by decide) wd_133 (fun _ h9 => h9) e8 d_Me_of_15 ?_
  refine lv_ladd hx hb d_Me_of_18 ?_
  refine lv_lstore (lv' := [(4, .long (v5 + v7)), (2, .long (v1 + v3)), (0, .ref a0), (1, .ref a1)]) hx hb d_Me_of_19 hl (by decide) rfl (fun ls hl => ?_)
  refine lv_aload_n hx hb d_Me_of_21 rfl (lv_at hl 2 rfl) ?_
  obtain ⟨v9, e10, h⟩ := gb h
  refine gw_getJ hx hb hT hown hK hI (ci := 3) rfl i_3 6 (by decide) wd_141 (fun _ h9 => h9) e10 d_Me_of_22 ?_
  refine lv_aload_n hx hb d_Me_of_25 rfl (lv_at hl 2 rfl) ?_
  obtain ⟨v11, e12, h⟩ := gb h
  refine gw_getJ hx hb hT hown hK hI (ci := 3) rfl i_3 9 (by decide) wd_147 (fun _ h9 => h9) e12 d_Me_of_26 ?_
  refine lv_aload_n hx hb d_Me_of_29 rfl (lv_at hl 3 rfl) ?_
  obtain ⟨v13, e14, h⟩ := gb h
  refine gw_getJ hx hb hT hown hK hI (ci := 3) rfl i_3 6 (by decide) wd_141 (fun _ h9 => h9) e14 d_Me_of_30 ?_
  refine lv_aload_n hx hb d_Me_of_33 rfl (lv_at hl 3 rfl) ?_
  obtain ⟨v15, e16, h⟩ := gb h
  refine gw_getJ hx hb hT hown hK hI (ci := 3) rfl i_3 9 (by decide) wd_147 (fun _ h9 => h9) e16 d_Me_of_34 ?_
  obtain ⟨u17, e18⟩ := gsome h
  refine gw_callJ e18 h (gw_runS (As := [.long v9, .long v11, .long v13, .long v15]) (rest := []) hx hb hml hown hT hK hZ hA hI (m_Me_gap l hst D g0 v9 v11 v13 v15 w u17 e18) ce_Me_gap wd_376 ⟨by decide, by decide⟩ rfl rfl hl.1 rfl (lv_room (Nat.le_of_ble_eq_true rfl)) d_Me_of_37 ⟨(show 0 + 0 ≤ 0 by omega), (show 0 + 0 ≤ 0 by omega)⟩) hI hA hexc (show 0 + 0 ≤ 0 by omega) (show 0 + 0 ≤ 0 by omega) (fun v19 w H locs h hI => ?_)
  refine lv_lstore (lv' := [(6, .long v19), (4, .long (v5 + v7)), (2, .long (v1 + v3)), (0, .ref a0), (1, .ref a1)]) hx hb d_Me_of_40 hl (by decide) rfl (fun ls hl => ?_)
  refine lv_aload_n hx hb d_Me_of_42 rfl (lv_at hl 3 rfl) ?_
  obtain ⟨v20, e21, h⟩ := gb h
  refine gw_getJ hx hb hT hown hK hI (ci := 3) rfl i_3 7 (by decide) wd_143 (fun _ h9 => h9) e21 d_Me_of_43 ?_
  refine lv_aload_n hx hb d_Me_of_46 rfl (lv_at hl 3 rfl) ?_
  obtain ⟨v22, e23, h⟩ := gb h
  refine gw_getJ hx hb hT hown hK hI (ci := 3) rfl i_3 10 (by decide) wd_149 (fun _ h9 => h9) e23 d_Me_of_47 ?_
  refine lv_aload_n hx hb d_Me_of_50 rfl (lv_at hl 4 rfl) ?_
  obtain ⟨v24, e25, h⟩ := gb h
  refine gw_getJ hx hb hT hown hK hI (ci := 3) rfl i_3 7 (by decide) wd_143 (fun _ h9 => h9) e25 d_Me_of_51 ?_
  refine lv_aload_n hx hb d_Me_of_54 rfl (lv_at hl 4 rfl) ?_
  obtain ⟨v26, e27, h⟩ := gb h
  refine gw_getJ hx hb hT hown hK hI (ci := 3) rfl i_3 10 (by decide) wd_149 (fun _ h9 => h9) e27 d_Me_of_55 ?_
  obtain ⟨u28, e29⟩ := gsome h
  refine gw_callJ e29 h (gw_runS (As := [.long v20, .long v22, .long v24, .long v26]) (rest := []) hx hb hml hown hT hK hZ hA hI (m_Me_gap l hst D g0 v20 v22 v24 v26 w u28 e29) ce_Me_gap wd_376 ⟨by decide, by decide⟩ rfl rfl hl.1 rfl (lv_room (Nat.le_of_ble_eq_true rfl)) d_Me_of_58 ⟨(show 0 + 0 ≤ 0 by omega), (show 0 + 0 ≤ 0 by omega)⟩) hI hA hexc (show 0 + 0 ≤ 0 by omega) (show 0 + 0 ≤ 0 by omega) (fun v30 w H locs h hI => ?_)
  refine lv_lstore (lv' := [(8, .long v30), (6, .long v19), (4, .long (v5 + v7)), (2, .long (v1 + v3)), (0, .ref a0), (1, .ref a1)]) hx hb d_Me_of_61 hl (by decide) rfl (fun ls hl => ?_)
  refine lv_aload_n hx hb d_Me_of_63 rfl (lv_at hl 4 rfl) ?_
  obtain ⟨v31, e32, h⟩ := gb h
  refine gw_getJ hx hb hT hown hK hI (ci := 3) rfl i_3 8 (by decide) wd_145 (fun _ h9 => h9) e32 d_Me_of_64 ?_
  refine lv_aload_n hx hb d_Me_of_67 rfl (lv_at hl 4 rfl) ?_
  obtain ⟨v33, e34, h⟩ := gb h
  refine gw_getJ hx hb hT hown hK hI (ci := 3) rfl i_3 11 (by decide) wd_151 (fun _ h9 => h9) e34 d_Me_of_68 ?_
  refine lv_aload_n hx hb d_Me_of_71 rfl (lv_at hl 5 rfl) ?_
  obtain ⟨v35, e36, h⟩ := gb h
  refine gw_getJ hx hb hT hown hK hI (ci := 3) rfl i_3 8 (by decide) wd_145 (fun _ h9 => h9) e36 d_Me_of_72 ?_
  refine lv_aload_n hx hb d_Me_of_75 rfl (lv_at hl 5 rfl) ?_
  obtain ⟨v37, e38, h⟩ := gb h
  refine gw_getJ hx hb hT hown hK hI (ci := 3) rfl i_3 11 (by decide) wd_151 (fun _ h9 => h9) e38 d_Me_of_76 ?_
  obtain ⟨u39, e40⟩ := gsome h
  refine gw_callJ e40 h (gw_runS (As := [.long v31, .long v33, .long v35, .long v37]) (rest := []) hx hb hml hown hT hK hZ hA hI (m_Me_gap l hst D g0 v31 v33 v35 v37 w u39 e40) ce_Me_gap wd_376 ⟨by decide, by decide⟩ rfl rfl hl.1 rfl (lv_room (Nat.le_of_ble_eq_true rfl)) d_Me_of_79 ⟨(show 0 + 0 ≤ 0 by omega), (show 0 + 0 ≤ 0 by omega)⟩) hI hA hexc (show 0 + 0 ≤ 0 by omega) (show 0 + 0 ≤ 0 by omega) (fun v41 w H locs h hI => ?_)
  refine lv_lstore (lv' := [(10, .long v41), (8, .long v30), (6, .long v19), (4, .long (v5 + v7)), (2, .long (v1 + v3)), (0, .ref a0), (1, .ref a1)]) hx hb d_Me_of_82 hl (by decide) rfl (fun ls hl => ?_)
  refine lv_lload hx hb d_Me_of_84 (lv_at hl 2 rfl) ?_
  refine lv_lload_n hx hb d_Me_of_86 rfl (lv_at hl 4 rfl) ?_
  refine lv_lload hx hb d_Me_of_87 (lv_at hl 3 rfl) ?_
  refine lv_ladd hx hb d_Me_of_89 ?_
  refine W.lcmp hx hb d_Me_of_90 ?_
  obtain ⟨K112, eK112, h⟩ := gj h
  have hK112 : ∀ (w : gW) (H : Heap) (locs : List Loc) (ls : Array Slot), K112 w = some r → gI D s A w H locs → lv_has ls 14 [] → W p l e rm_Me_of s m args below meth c H locs 0 0 Q (F0 m 112 ls []) := by
    intro w H locs ls h hI hl
    have h := gk1 eK112 h
    refine lv_iconst (v := 1) hx hb d_Me_of_112 (by decide) ?_
    exact W.widen (show 0 ≤ 0 by omega) (show 0 ≤ 0 by omega) (hret _ _ (Option.some.inj h).symm _ _ _ _ d_Me_of_113 hI)
  refine lv_if_gt (tgt := 112) hx hb d_Me_of_91 (by decide) (fun c42 => ?_) (fun c42 => ?_)
  · have c42 := (lg_cmp_gt _ _).mp c42
    have h := git c42 h
    exact hK112 w H locs ls h hI (lv_sub hl [] rfl)
  · have c42 := mt (lg_cmp_gt _ _).mpr c42
    have h := gie c42 h
    refine lv_lload hx hb d_Me_of_94 (lv_at hl 1 rfl) ?_
    refine lv_lload_n hx hb d_Me_of_96 rfl (lv_at hl 4 rfl) ?_
    refine lv_lload hx hb d_Me_of_97 (lv_at hl 3 rfl) ?_
    refine lv_ladd hx hb d_Me_of_99 ?_
    refine W.lcmp hx hb d_Me_of_100 ?_
    refine lv_if_gt (tgt := 112) hx hb d_Me_of_101 (by decide) (fun c43 => ?_) (fun c43 => ?_)
    · have c43 := (lg_cmp_gt _ _).mp c43
      have h := git c43 h
      exact hK112 w H locs ls h hI (lv_sub hl [] rfl)
    · have c43 := mt (lg_cmp_gt _ _).mpr c43
      have h := gie c43 h
      refine lv_lload hx hb d_Me_of_104 (lv_at hl 0 rfl) ?_
      refine lv_lload hx hb d_Me_of_106 (lv_at hl 3 rfl) ?_
      refine W.lcmp hx hb d_Me_of_108 ?_
      refine lv_if_le (tgt := 114) hx hb d_Me_of_109 (by decide) (fun c44 => ?_) (fun c44 => ?_)
      · have c44 := (lg_cmp_le _ _).mp c44
        have h := git c44 h
        refine lv_lload hx hb d_Me_of_114 (lv_at hl 3 rfl) ?_
        refine lv_lconst (v := 0) hx hb d_Me_of_116 (by decide) ?_
        refine W.lcmp hx hb d_Me_of_117 ?_
        refine lv_if_ne (tgt := 156) hx hb d_Me_of_118 (by decide) (fun c45 => ?_) (fun c45 => ?_)
        · have c45 := mt (lg_cmp_eq _ _).mpr c45
          have h := gie c45 h
          refine lv_lload hx hb d_Me_of_156 (lv_at hl 3 rfl) ?_
          refine lv_lload hx hb d_Me_of_158 (lv_at hl 3 rfl) ?_
          refine lv_lmul hx hb d_Me_of_160 ?_
          refine lv_lload hx hb d_Me_of_161 (lv_at hl 0 rfl) ?_
          obtain ⟨u46, e47⟩ := gsome h
          refine gw_callJ e47 h (gw_runS (As := [.long v41]) (rest := [.long ((v5 + v7) * (v5 + v7))]) hx hb hml hown hT hK hZ hA hI (m_Me_squareIfAbove l hst D g0 v41 w u46 e47) ce_Me_squareIfAbove wd_397 ⟨by decide, by decide⟩ rfl rfl hl.1 rfl (lv_room (Nat.le_of_ble_eq_true rfl)) d_Me_of_163 ⟨(show 0 + 0 ≤ 0 by omega), (show 0 + 0 ≤ 0 by omega)⟩) hI hA hexc (show 0 + 0 ≤ 0 by omega) (show 0 + 0 ≤ 0 by omega) (fun v48 w H locs h hI => ?_)
          refine lv_lsub hx hb d_Me_of_166 ?_
          refine lv_lstore (lv' := [(12, .long (((v5 + v7) * (v5 + v7)) - v48)), (10, .long v41), (8, .long v30), (6, .long v19), (4, .long (v5 + v7)), (2, .long (v1 + v3)), (0, .ref a0), (1, .ref a1)]) hx hb d_Me_of_167 hl (by decide) rfl (fun ls hl => ?_)
          refine lv_lload_n hx hb d_Me_of_169 rfl (lv_at hl 5 rfl) ?_
          refine lv_lconst (v := 0) hx hb d_Me_of_170 (by decide) ?_
          refine W.lcmp hx hb d_Me_of_171 ?_
          refine lv_if_ne (tgt := 183) hx hb d_Me_of_172 (by decide) (fun c49 => ?_) (fun c49 => ?_)
          · have c49 := mt (lg_cmp_eq _ _).mpr c49
            have h := gie c49 h
            refine lv_lload hx hb d_Me_of_183 (lv_at hl 3 rfl) ?_
            obtain ⟨u50, e51⟩ := gsome h
            refine gw_callJ e51 h (gw_runS (As := [.long v19]) (rest := []) hx hb hml hown hT hK hZ hA hI (m_Me_squareIfAbove l hst D g0 v19 w u50 e51) ce_Me_squareIfAbove wd_397 ⟨by decide, by decide⟩ rfl rfl hl.1 rfl (lv_room (Nat.le_of_ble_eq_true rfl)) d_Me_of_185 ⟨(show 0 + 0 ≤ 0 by omega), (show 0 + 0 ≤ 0 by omega)⟩) hI hA hexc (show 0 + 0 ≤ 0 by omega) (show 0 + 0 ≤ 0 by omega) (fun v52 w H locs h hI => ?_)
            refine lv_lload hx hb d_Me_of_188 (lv_at hl 2 rfl) ?_
            obtain ⟨u53, e54⟩ := gsome h
            refine gw_callJ e54 h (gw_runS (As := [.long v30]) (rest := [.long v52]) hx hb hml hown hT hK hZ hA hI (m_Me_squareIfAbove l hst D g0 v30 w u53 e54) ce_Me_squareIfAbove wd_397 ⟨by decide, by decide⟩ rfl rfl hl.1 rfl (lv_room (Nat.le_of_ble_eq_true rfl)) d_Me_of_190 ⟨(show 0 + 0 ≤ 0 by omega), (show 0 + 0 ≤ 0 by omega)⟩) hI hA hexc (show 0 + 0 ≤ 0 by omega) (show 0 + 0 ≤ 0 by omega) (fun v55 w H locs h hI => ?_)
            refine lv_ladd hx hb d_Me_of_193 ?_
            refine lv_lload_n hx hb d_Me_of_194 rfl (lv_at hl 5 rfl) ?_
            refine lv_lload hx hb d_Me_of_195 (lv_at hl 0 rfl) ?_
            obtain ⟨u56, e57⟩ := gsome h
            refine gw_callI e57 h (gw_runS (As := [.long (v52 + v55), .long (v1 + v3), .long (((v5 + v7) * (v5 + v7)) - v48)]) (rest := []) hx hb hml hown hT hK hZ hA hI (m_Me_discAndRound l hst D g0 (v52 + v55) (v1 + v3) (((v5 + v7) * (v5 + v7)) - v48) w u56 e57) ce_Me_discAndRound wd_406 ⟨by decide, by decide⟩ rfl rfl hl.1 rfl (lv_room (Nat.le_of_ble_eq_true rfl)) d_Me_of_197 ⟨(show 0 + 0 ≤ 0 by omega), (show 0 + 0 ≤ 0 by omega)⟩) hI hA hexc (show 0 + 0 ≤ 0 by omega) (show 0 + 0 ≤ 0 by omega) (fun v58 w H locs h hI => ?_)
            exact W.widen (show 0 ≤ 0 by omega) (show 0 ≤ 0 by omega) (hret _ _ (Option.some.inj h).symm _ _ _ _ d_Me_of_200 hI)
          · have c49 := (lg_cmp_eq _ _).mp c49
            have h := git c49 h
            refine lv_aload_n hx hb d_Me_of_175 rfl (lv_at hl 6 rfl) ?_
            refine lv_aload_n hx hb d_Me_of_176 rfl (lv_at hl 7 rfl) ?_
            refine lv_lload hx hb d_Me_of_177 (lv_at hl 0 rfl) ?_
            obtain ⟨u59, e60⟩ := gsome h
            refine gw_callI e60 h (gw_runS (As := [.ref a0, .ref a1, .long (((v5 + v7) * (v5 + v7)) - v48)]) (rest := []) hx hb hml hown hT hK hZ hA hI (m_Me_distance l hst D g0 a0 a1 (((v5 + v7) * (v5 + v7)) - v48) w u59 e60) ce_Me_distance wd_391 ⟨by decide, by decide⟩ rfl rfl hl.1 rfl (lv_room (Nat.le_of_ble_eq_true rfl)) d_Me_of_179 ⟨(show 0 + 0 ≤ 0 by omega), (show 0 + 0 ≤ 0 by omega)⟩) hI hA hexc (show 0 + 0 ≤ 0 by omega) (show 0 + 0 ≤ 0 by omega) (fun v61 w H locs h hI => ?_)
            exact W.widen (show 0 ≤ 0 by omega) (show 0 ≤ 0 by omega) (hret _ _ (Option.some.inj h).symm _ _ _ _ d_Me_of_182 hI)
        · have c45 := (lg_cmp_eq _ _).mp c45
          have h := git c45 h
          refine lv_lload_n hx hb d_Me_of_121 rfl (lv_at hl 4 rfl) ?_
          refine lv_lconst (v := 0) hx hb d_Me_of_122 (by decide) ?_
          refine W.lcmp hx hb d_Me_of_123 ?_
          obtain ⟨K143, eK143, h⟩ := gj h
          have hK143 : ∀ (y62 : Int32) (w : gW) (H : Heap) (locs : List Loc) (ls : Array Slot), K143 y62 w = some r → gI D s A w H locs → lv_has ls 14 [(10, .long v41)] → W p l e rm_Me_of s m args below meth c H locs 0 0 Q (F0 m 143 ls [.int y62]) := by
            intro y62 w H locs ls h hI hl
            have h := gk2 eK143 h
            refine lv_istore (lv' := [(12, .int y62), (10, .long v41)]) hx hb d_Me_of_143 hl (by decide) rfl (fun ls hl => ?_)
            refine lv_iload hx hb d_Me_of_145 (lv_at hl 0 rfl) ?_
            refine lv_lload hx hb d_Me_of_147 (lv_at hl 1 rfl) ?_
            obtain ⟨u63, e64⟩ := gsome h
            refine gw_callI e64 h (gw_runS (As := [.long v41]) (rest := [.int y62]) hx hb hml hown hT hK hZ hA hI (m_Me_sign l hst D g0 v41 w u63 e64) ce_Me_sign wd_383 ⟨by decide, by decide⟩ rfl rfl hl.1 rfl (lv_room (Nat.le_of_ble_eq_true rfl)) d_Me_of_149 ⟨(show 0 + 0 ≤ 0 by omega), (show 0 + 0 ≤ 0 by omega)⟩) hI hA hexc (show 0 + 0 ≤ 0 by omega) (show 0 + 0 ≤ 0 by omega) (fun v65 w H locs h hI => ?_)
            obtain ⟨u66, e67⟩ := gsome h
            refine gw_callI e67 h (gw_runS (As := [.int y62, .int v65]) (rest := []) hx hb hml hown hT hK hZ hA hI (m_Ma_max l hst D g0 y62 v65 w u66 e67) ce_Ma_max wd_390 ⟨by decide, by decide⟩ rfl rfl hl.1 rfl (lv_room (Nat.le_of_ble_eq_true rfl)) d_Me_of_152 ⟨(show 0 + 0 ≤ 0 by omega), (show 0 + 0 ≤ 0 by omega)⟩) hI hA hexc (show 0 + 0 ≤ 0 by omega) (show 0 + 0 ≤ 0 by omega) (fun v68 w H locs h hI => ?_)
            exact W.widen (show 0 ≤ 0 by omega) (show 0 ≤ 0 by omega) (hret _ _ (Option.some.inj h).symm _ _ _ _ d_Me_of_155 hI)
          refine lv_if_ne (tgt := 135) hx hb d_Me_of_124 (by decide) (fun c69 => ?_) (fun c69 => ?_)
          · have c69 := mt (lg_cmp_eq _ _).mpr c69
            have h := gie c69 h
            refine lv_aload_n hx hb d_Me_of_135 rfl (lv_at hl 5 rfl) ?_
            refine lv_aload_n hx hb d_Me_of_136 rfl (lv_at hl 6 rfl) ?_
            refine lv_lload_n hx hb d_Me_of_137 rfl (lv_at hl 4 rfl) ?_
            refine lv_lload_n hx hb d_Me_of_138 rfl (lv_at hl 4 rfl) ?_
            refine lv_lmul hx hb d_Me_of_139 ?_
            obtain ⟨u70, e71⟩ := gsome h
            refine gw_callI e71 h (gw_runS (As := [.ref a0, .ref a1, .long ((v1 + v3) * (v1 + v3))]) (rest := []) hx hb hml hown hT hK hZ hA hI (m_Me_distance l hst D g0 a0 a1 ((v1 + v3) * (v1 + v3)) w u70 e71) ce_Me_distance wd_391 ⟨by decide, by decide⟩ rfl rfl hl.1 rfl (lv_room (Nat.le_of_ble_eq_true rfl)) d_Me_of_140 ⟨(show 0 + 0 ≤ 0 by omega), (show 0 + 0 ≤ 0 by omega)⟩) hI hA hexc (show 0 + 0 ≤ 0 by omega) (show 0 + 0 ≤ 0 by omega) (fun v72 w H locs h hI => ?_)
            exact hK143 _ w H locs ls h hI (lv_sub hl [0] rfl)
          · have c69 := (lg_cmp_eq _ _).mp c69
            have h := git c69 h
            refine lv_aload_n hx hb d_Me_of_127 rfl (lv_at hl 5 rfl) ?_
            refine lv_aload_n hx hb d_Me_of_128 rfl (lv_at hl 6 rfl) ?_
            obtain ⟨u73, e74⟩ := gsome h
            refine gw_callI e74 h (gw_runS (As := [.ref a0, .ref a1]) (rest := []) hx hb hml hown hT hK hZ hA hI (m_Me_outlines l hst D g0 a0 a1 w u73 e74) ce_Me_outlines wd_380 ⟨by decide, by decide⟩ rfl rfl hl.1 rfl (lv_room (Nat.le_of_ble_eq_true rfl)) d_Me_of_129 ⟨(show 0 + 0 ≤ 0 by omega), (show 0 + 0 ≤ 0 by omega)⟩) hI hA hexc (show 0 + 0 ≤ 0 by omega) (show 0 + 0 ≤ 0 by omega) (fun v75 w H locs h hI => ?_)
            refine lv_goto (tgt := 143) hx hb d_Me_of_132 (by decide) ?_
            exact hK143 _ w H locs ls h hI (lv_sub hl [0] rfl)
      · have c44 := mt (lg_cmp_le _ _).mpr c44
        have h := gie c44 h
        exact hK112 w H locs ls h hI (lv_sub hl [] rfl)

abbrev b_B_relationOfLayouts : ByteArray := prog_1_method_36_code
def y_B_relationOfLayouts : MethodName := ⟨"BodySolids", "relationOfLayouts", "()I"⟩
theorem d_B_relationOfLayouts_0 : decode b_B_relationOfLayouts 0 = .ok (.iconst 0, 1) := by decide +kernel
theorem d_B_relationOfLayouts_1 : decode b_B_relationOfLayouts 1 = .ok (.istore_n 1, 1) := by decide +kernel
theorem d_B_relationOfLayouts_2 : decode b_B_relationOfLayouts 2 = .ok (.iconst 0, 1) := by decide +kernel
theorem d_B_relationOfLayouts_3 : decode b_B_relationOfLayouts 3 = .ok (.istore_n 2, 1) := by decide +kernel
theorem d_B_relationOfLayouts_4 : decode b_B_relationOfLayouts 4 = .ok (.iload_n 2, 1) := by decide +kernel
theorem d_B_relationOfLayouts_5 : decode b_B_relationOfLayouts 5 = .ok (.aload_n 0, 1) := by decide +kernel
theorem d_B_relationOfLayouts_6 : decode b_B_relationOfLayouts 6 = .ok (.getfield 61, 3) := by decide +kernel
theorem d_B_relationOfLayouts_9 : decode b_B_relationOfLayouts 9 = .ok (.getfield 217, 3) := by decide +kernel
theorem d_B_relationOfLayouts_12 : decode b_B_relationOfLayouts 12 = .ok (.if_icmp .ge 66, 3) := by decide +kernel
theorem d_B_relationOfLayouts_15 : decode b_B_relationOfLayouts 15 = .ok (.iconst 0, 1) := by decide +kernel
theorem d_B_relationOfLayouts_16 : decode b_B_relationOfLayouts 16 = .ok (.istore_n 3, 1) := by decide +kernel
theorem d_B_relationOfLayouts_17 : decode b_B_relationOfLayouts 17 = .ok (.iload_n 3, 1) := by decide +kernel
theorem d_B_relationOfLayouts_18 : decode b_B_relationOfLayouts 18 = .ok (.aload_n 0, 1) := by decide +kernel
theorem d_B_relationOfLayouts_19 : decode b_B_relationOfLayouts 19 = .ok (.getfield 65, 3) := by decide +kernel
theorem d_B_relationOfLayouts_22 : decode b_B_relationOfLayouts 22 = .ok (.getfield 217, 3) := by decide +kernel
theorem d_B_relationOfLayouts_25 : decode b_B_relationOfLayouts 25 = .ok (.if_icmp .ge 47, 3) := by decide +kernel
theorem d_B_relationOfLayouts_28 : decode b_B_relationOfLayouts 28 = .ok (.aload_n 0, 1) := by decide +kernel
theorem d_B_relationOfLayouts_29 : decode b_B_relationOfLayouts 29 = .ok (.getfield 61, 3) := by decide +kernel
theorem d_B_relationOfLayouts_32 : decode b_B_relationOfLayouts 32 = .ok (.getfield 227, 3) := by decide +kernel
theorem d_B_relationOfLayouts_35 : decode b_B_relationOfLayouts 35 = .ok (.iload_n 2, 1) := by decide +kernel
theorem d_B_relationOfLayouts_36 : decode b_B_relationOfLayouts 36 = .ok (.aaload, 1) := by decide +kernel
theorem d_B_relationOfLayouts_37 : decode b_B_relationOfLayouts 37 = .ok (.aload_n 0, 1) := by decide +kernel
theorem d_B_relationOfLayouts_38 : decode b_B_relationOfLayouts 38 = .ok (.getfield 65, 3) := by decide +kernel
theorem d_B_relationOfLayouts_41 : decode b_B_relationOfLayouts 41 = .ok (.getfield 227, 3) := by decide +kernel
theorem d_B_relationOfLayouts_44 : decode b_B_relationOfLayouts 44 = .ok (.iload_n 3, 1) := by decide +kernel
theorem d_B_relationOfLayouts_45 : decode b_B_relationOfLayouts 45 = .ok (.aaload, 1) := by decide +kernel
theorem d_B_relationOfLayouts_46 : decode b_B_relationOfLayouts 46 = .ok (.invokestatic 282, 3) := by decide +kernel
theorem d_B_relationOfLayouts_49 : decode b_B_relationOfLayouts 49 = .ok (.istore 4, 2) := by decide +kernel
theorem d_B_relationOfLayouts_51 : decode b_B_relationOfLayouts 51 = .ok (.iload 4, 2) := by decide +kernel
theorem d_B_relationOfLayouts_53 : decode b_B_relationOfLayouts 53 = .ok (.iconst (-1), 1) := by decide +kernel
theorem d_B_relationOfLayouts_54 : decode b_B_relationOfLayouts 54 = .ok (.if_icmp .ne 5, 3) := by decide +kernel
theorem d_B_relationOfLayouts_57 : decode b_B_relationOfLayouts 57 = .ok (.iconst 1, 1) := by decide +kernel
theorem d_B_relationOfLayouts_58 : decode b_B_relationOfLayouts 58 = .ok (.ireturn, 1) := by decide +kernel
theorem d_B_relationOfLayouts_59 : decode b_B_relationOfLayouts 59 = .ok (.iload 4, 2) := by decide +kernel
theorem d_B_relationOfLayouts_61 : decode b_B_relationOfLayouts 61 = .ok (.ifCond .ne 5, 3) := by decide +kernel
theorem d_B_relationOfLayouts_64 : decode b_B_relationOfLayouts 64 = .ok (.iconst 2, 1) := by decide +kernel
theorem d_B_relationOfLayouts_65 : decode b_B_relationOfLayouts 65 = .ok (.istore_n 1, 1) := by decide +kernel
theorem d_B_relationOfLayouts_66 : decode b_B_relationOfLayouts 66 = .ok (.iinc 3 1, 3) := by decide +kernel
theorem d_B_relationOfLayouts_69 : decode b_B_relationOfLayouts 69 = .ok (.goto (-52), 3) := by decide +kernel
theorem d_B_relationOfLayouts_72 : decode b_B_relationOfLayouts 72 = .ok (.iinc 2 1, 3) := by decide +kernel
theorem d_B_relationOfLayouts_75 : decode b_B_relationOfLayouts 75 = .ok (.goto (-71), 3) := by decide +kernel
theorem d_B_relationOfLayouts_78 : decode b_B_relationOfLayouts 78 = .ok (.iload_n 1, 1) := by decide +kernel
theorem d_B_relationOfLayouts_79 : decode b_B_relationOfLayouts 79 = .ok (.ireturn, 1) := by decide +kernel
abbrev rm_B_relationOfLayouts : Room := { frames := 5, cells := 0, slots := 0, locals := 147 }
theorem ce_B_relationOfLayouts : gCe y_B_relationOfLayouts (.code y_B_relationOfLayouts b_B_relationOfLayouts 5 (some .int)) 5 0 false := gCe.code wd_372 wd_49 wd_371 (by decide) (by decide +kernel)
def f_B_relationOfLayouts_L17 (g0 : gG) (c0 : Nat) (c2 : Int32) (K72 : Int32 → gW → gX Int32) (K57 : gW → gX Int32) : Nat → Int32 → Int32 → gW → gX Int32
  | 0, _, _, _ => none
  | n + 1, z1, z3, w => (gfA w c0 0 9).bind fun v8 => (gfI w v8 2 1).bind fun v10 => if v10 ≤ z3 then (K72 z1 w) else ((gfA w c0 0 8).bind fun v13 => (gfA w v13 2 0).bind fun v15 => (gaA w v15 c2).bind fun v17 => (gfA w c0 0 9).bind fun v19 => (gfA w v19 2 0).bind fun v21 => (gaA w v21 z3).bind fun v23 => gbind (f_Me_of g0 v17 v23 w) fun v27 w => if v27 = (-1) then (K57 w) else (gjoin (fun K66 => if v27 = 0 then (K66 2 w) else (K66 z1 w)) (fun (x29 : Int32) (w : gW) => f_B_relationOfLayouts_L17 g0 c0 c2 K72 K57 n x29 (z3 + 1) w)))
def f_B_relationOfLayouts_L4 (g0 : gG) (c0 : Nat) (K78 : Int32 → gW → gX Int32) (K57 : gW → gX Int32) : Nat → Int32 → Int32 → gW → gX Int32
  | 0, _, _, _ => none
  | n + 1, z1, z2, w => (gfA w c0 0 8).bind fun v2 => (gfI w v2 2 1).bind fun v4 => if v4 ≤ z2 then (K78 z1 w) else (gjoin (fun K72 => f_B_relationOfLayouts_L17 g0 c0 z2 K72 K57 64 z1 0 w) (fun (x7 : Int32) (w : gW) => f_B_relationOfLayouts_L4 g0 c0 K78 K57 n x7 (z2 + 1) w))
def f_B_relationOfLayouts (g0 : gG) (a0 : Nat) (w : gW) : gX Int32 := gjoin (fun K78 => gjoin (fun K57 => f_B_relationOfLayouts_L4 g0 a0 K78 K57 64 0 0 w) (fun (w : gW) => some (.inr 1, w))) (fun (x1 : Int32) (w : gW) => some (.inr x1, w))
set_option maxHeartbeats 4000000 in
set_option maxRecDepth 100000 in
theorem m_B_relationOfLayouts (l : Launch) (hst : l.stackTraces = false) (D : gD) (g0 : gG) (a0 : Nat) (w : gW) (r : (String ⊕ Int32) × gW) (h : f_B_relationOfLayouts g0 a0 w = some r) : gMet l y_B_relationOfLayouts (.code y_B_relationOfLayouts b_B_relationOfLayouts 5 (some .int)) rm_B_relationOfLayouts D g0 [.ref a0] w (goI r) := by
  refine gw_ofI (by decide +kernel) (Nat.le_of_ble_eq_true rfl) ?_
  intro p e s m below meth c ls args A Q hx hb hml hown hlocks hin hnt hT hK hZ hA hret hexc hthr hI hl
  obtain ⟨H, hH⟩ : ∃ H, H = s.heap := ⟨_, rfl⟩
  rw [← hH] at hI ⊢
  obtain ⟨locs, hlocs⟩ : ∃ z : List Loc, z = [] := ⟨_, rfl⟩
  rw [← hlocs] at hI ⊢
  have hl : lv_has ls 5 [(0, .ref a0)] := hl
  unfold f_B_relationOfLayouts at h
  refine lv_iconst (v := 0) hx hb d_B_relationOfLayouts_0 (by decide) ?_
  refine lv_istore_n (lv' := [(1, .int 0), (0, .ref a0)]) hx hb d_B_relationOfLayouts_1 rfl hl (by decide) rfl (fun ls hl => ?_)
  refine lv_iconst (v := 0) hx hb d_B_relationOfLayouts_2 (by decide) ?_
  refine lv_istore_n (lv' := [(2, .int 0), (1, .int 0), (0, .ref a0)]) hx hb d_B_relationOfLayouts_3 rfl hl (by decide) rfl (fun ls hl => ?_)
  obtain ⟨K78, eK78, h⟩ := gj h
  have hK78 : ∀ (x1 : Int32) (w : gW) (H : Heap) (locs : List Loc) (ls : Array Slot), K78 x1 w = some r → gI D s A w H locs → lv_has ls 5 [(1, .int x1)] → W p l e rm_B_relationOfLayouts s m args below meth c H locs 0 0 Q (F0 m 78 ls []) := by
    intro x1 w H locs ls h hI hl
    have h := gk2 eK78 h
    refine lv_iload_n hx hb d_B_relationOfLayouts_78 rfl (lv_at hl 0 rfl) ?_
    exact W.widen (show 0 ≤ 0 by omega) (show 0 ≤ 0 by omega) (hret _ _ (Option.some.inj h).symm _ _ _ _ d_B_relationOfLayouts_79 hI)
  obtain ⟨K57, eK57, h⟩ := gj h
  have hK57 : ∀ (w : gW) (H : Heap) (locs : List Loc) (ls : Array Slot), K57 w = some r → gI D s A w H locs → lv_has ls 5 [] → W p l e rm_B_relationOfLayouts s m args below meth c H locs 0 0 Q (F0 m 57 ls []) := by
    intro w H locs ls h hI hl
    have h := gk1 eK57 h
    refine lv_iconst (v := 1) hx hb d_B_relationOfLayouts_57 (by decide) ?_
    exact W.widen (show 0 ≤ 0 by omega) (show 0 ≤ 0 by omega) (hret _ _ (Option.some.inj h).symm _ _ _ _ d_B_relationOfLayouts_58 hI)
  have hL4 : ∀ (n : Nat), ∀ (z2 : Int32) (z3 : Int32) (w : gW) (H : Heap) (locs : List Loc) (ls : Array Slot), f_B_relationOfLayouts_L4 g0 a0 K78 K57 n z2 z3 w = some r → gI D s A w H locs → lv_has ls 5 [(0, .ref a0), (1, .int z2), (2, .int z3)] → W p l e rm_B_relationOfLayouts s m args below meth c H locs 0 0 Q (F0 m 4 ls []) := by
    intro n
    induction n with
    | zero => intro z2 z3 w H locs ls h hI hl; exact absurd h (by simp [f_B_relationOfLayouts_L4])
    | succ n ih =>
      intro z2 z3 w H locs ls h hI hl
      rw [f_B_relationOfLayouts_L4] at h
      refine lv_iload_n hx hb d_B_relationOfLayouts_4 rfl (lv_at hl 2 rfl) ?_
      refine lv_aload_n hx hb d_B_relationOfLayouts_5 rfl (lv_at hl 0 rfl) ?_
      obtain ⟨v4, e5, h⟩ := gb h
      refine gw_getA hx hb hT hown hK hI (ci := 0) rfl i_0 8 (by decide) wd_197 (fun _ h9 => h9) e5 d_B_relationOfLayouts_6 ?_
      obtain ⟨v6, e7, h⟩ := gb h
      refine gw_getI hx hb hT hown hK hI (ci := 2) rfl i_2 1 (by decide) wd_183 (fun _ h9 => h9) e7 d_B_relationOfLayouts_9 ?_
      refine lv_icmp_ge (tgt := 78) hx hb d_B_relationOfLayouts_12 (by decide) (fun c8 => ?_) (fun c8 => ?_)
      · skip
        have h := git c8 h
        exact hK78 _ w H locs ls h hI (lv_sub hl [1] rfl)
      · skip
        have h := gie c8 h
        refine lv_iconst (v := 0) hx hb d_B_relationOfLayouts_15 (by decide) ?_
        refine lv_istore_n (lv' := [(3, .int 0), (0, .ref a0), (1, .int z2), (2, .int z3)]) hx hb d_B_relationOfLayouts_16 rfl hl (by decide) rfl (fun ls hl => ?_)
        obtain ⟨K72, eK72, h⟩ := gj h
        have hK72 : ∀ (x9 : Int32) (w : gW) (H : Heap) (locs : List Loc) (ls : Array Slot), K72 x9 w = some r → gI D s A w H locs → lv_has ls 5 [(0, .ref a0), (1, .int x9), (2, .int z3)] → W p l e rm_B_relationOfLayouts s m args below meth c H locs 0 0 Q (F0 m 72 ls []) := by
          intro x9 w H locs ls h hI hl
          have h := gk2 eK72 h
          refine lv_iinc (v := z3 + 1) (lv' := [(2, .int (z3 + 1)), (0, .ref a0), (1, .int x9)]) hx hb d_B_relationOfLayouts_72 hl (k := 2) rfl rfl (by decide) rfl (fun ls hl => ?_)
          refine lv_goto (tgt := 4) hx hb d_B_relationOfLayouts_75 (by decide) ?_
          exact ih _ _ w H locs ls h hI (lv_sub hl [1, 2, 0] rfl)
        have hL17 : ∀ (n : Nat), ∀ (z10 : Int32) (z11 : Int32) (w : gW) (H : Heap) (locs : List Loc) (ls : Array Slot), f_B_relationOfLayouts_L17 g0 a0 z3 K72 K57 n z10 z11 w = some r → gI D s A w H locs → lv_has ls 5 [(0, .ref a0), (2, .int z3), (1, .int z10), (3, .int z11)] → W p l e rm_B_relationOfLayouts s m args below meth c H locs 0 0 Q (F0 m 17 ls []) := by
          intro n
          induction n with
          | zero => intro z10 z11 w H locs ls h hI hl; exact absurd h (by simp [f_B_relationOfLayouts_L17])
          | succ n ih =>
            intro z10 z11 w H locs ls h hI hl
            rw [f_B_relationOfLayouts_L17] at h
            refine lv_iload_n hx hb d_B_relationOfLayouts_17 rfl (lv_at hl 3 rfl) ?_
            refine lv_aload_n hx hb d_B_relationOfLayouts_18 rfl (lv_at hl 0 rfl) ?_
            obtain ⟨v12, e13, h⟩ := gb h
            refine gw_getA hx hb hT hown hK hI (ci := 0) rfl i_0 9 (by decide) wd_198 (fun _ h9 => h9) e13 d_B_relationOfLayouts_19 ?_
            obtain ⟨v14, e15, h⟩ := gb h
            refine gw_getI hx hb hT hown hK hI (ci := 2) rfl i_2 1 (by decide) wd_183 (fun _ h9 => h9) e15 d_B_relationOfLayouts_22 ?_
            refine lv_icmp_ge (tgt := 72) hx hb d_B_relationOfLayouts_25 (by decide) (fun c16 => ?_) (fun c16 => ?_)
            · skip
              have h := git c16 h
              exact hK72 _ w H locs ls h hI (lv_sub hl [0, 2, 1] rfl)
            · skip
              have h := gie c16 h
              refine lv_aload_n hx hb d_B_relationOfLayouts_28 rfl (lv_at hl 0 rfl) ?_
              obtain ⟨v17, e18, h⟩ := gb h
              refine gw_getA hx hb hT hown hK hI (ci := 0) rfl i_0 8 (by decide) wd_197 (fun _ h9 => h9) e18 d_B_relationOfLayouts_29 ?_
              obtain ⟨v19, e20, h⟩ := gb h
              refine gw_getA hx hb hT hown hK hI (ci := 2) rfl i_2 0 (by decide) wd_181 (fun _ h9 => h9) e20 d_B_relationOfLayouts_32 ?_
              refine lv_iload_n hx hb d_B_relationOfLayouts_35 rfl (lv_at hl 1 rfl) ?_
              obtain ⟨v21, e22, h⟩ := gb h
              refine gw_aldA hx hb hK hI e22 d_B_relationOfLayouts_36 ?_
              refine lv_aload_n hx hb d_B_relationOfLayouts_37 rfl (lv_at hl 0 rfl) ?_
              obtain ⟨v23, e24, h⟩ := gb h
              refine gw_getA hx hb hT hown hK hI (ci := 0) rfl i_0 9 (by decide) wd_198 (fun _ h9 => h9) e24 d_B_relationOfLayouts_38 ?_
              obtain ⟨v25, e26, h⟩ := gb h
              refine gw_getA hx hb hT hown hK hI (ci := 2) rfl i_2 0 (by decide) wd_181 (fun _ h9 => h9) e26 d_B_relationOfLayouts_41 ?_
              refine lv_iload_n hx hb d_B_relationOfLayouts_44 rfl (lv_at hl 3 rfl) ?_
              obtain ⟨v27, e28, h⟩ := gb h
              refine gw_aldA hx hb hK hI e28 d_B_relationOfLayouts_45 ?_
              obtain ⟨u29, e30⟩ := gsome h
              refine gw_callI e30 h (gw_runS (As := [.ref v21, .ref v27]) (rest := []) hx hb hml hown hT hK hZ hA hI (m_Me_of l hst D g0 v21 v27 w u29 e30) ce_Me_of wd_373 ⟨by decide, by decide⟩ rfl rfl hl.1 rfl (lv_room (Nat.le_of_ble_eq_true rfl)) d_B_relationOfLayouts_46 ⟨(show 0 + 0 ≤ 0 by omega), (show 0 + 0 ≤ 0 by omega)⟩) hI hA hexc (show 0 + 0 ≤ 0 by omega) (show 0 + 0 ≤ 0 by omega) (fun v31 w H locs h hI => ?_)
              refine lv_istore (lv' := [(4, .int v31), (0, .ref a0), (2, .int z3), (1, .int z10), (3, .int z11)]) hx hb d_B_relationOfLayouts_49 hl (by decide) rfl (fun ls hl => ?_)
              refine lv_iload hx hb d_B_relationOfLayouts_51 (lv_at hl 0 rfl) ?_
              refine lv_iconst (v := -1) hx hb d_B_relationOfLayouts_53 (by decide) ?_
              refine lv_icmp_ne (tgt := 59) hx hb d_B_relationOfLayouts_54 (by decide) (fun c32 => ?_) (fun c32 => ?_)
              · skip
                have h := gie c32 h
                refine lv_iload hx hb d_B_relationOfLayouts_59 (lv_at hl 0 rfl) ?_
                obtain ⟨K66, eK66, h⟩ := gj h
                have hK66 : ∀ (x33 : Int32) (w : gW) (H : Heap) (locs : List Loc) (ls : Array Slot), K66 x33 w = some r → gI D s A w H locs → lv_has ls 5 [(0, .ref a0), (1, .int x33), (2, .int z3), (3, .int z11)] → W p l e rm_B_relationOfLayouts s m args below meth c H locs 0 0 Q (F0 m 66 ls []) := by
                  intro x33 w H locs ls h hI hl
                  have h := gk2 eK66 h
                  refine lv_iinc (v := z11 + 1) (lv' := [(3, .int (z11 + 1)), (0, .ref a0), (1, .int x33), (2, .int z3)]) hx hb d_B_relationOfLayouts_66 hl (k := 3) rfl rfl (by decide) rfl (fun ls hl => ?_)
                  refine lv_goto (tgt := 17) hx hb d_B_relationOfLayouts_69 (by decide) ?_
                  exact ih _ _ w H locs ls h hI (lv_sub hl [1, 3, 2, 0] rfl)
                refine lv_if_ne (tgt := 66) hx hb d_B_relationOfLayouts_61 (by decide) (fun c34 => ?_) (fun c34 => ?_)
                · skip
                  have h := gie c34 h
                  exact hK66 _ w H locs ls h hI (lv_sub hl [1, 3, 2, 4] rfl)
                · skip
                  have h := git c34 h
                  refine lv_iconst (v := 2) hx hb d_B_relationOfLayouts_64 (by decide) ?_
                  refine lv_istore_n (lv' := [(1, .int 2), (4, .int v31), (0, .ref a0), (2, .int z3), (3, .int z11)]) hx hb d_B_relationOfLayouts_65 rfl hl (by decide) rfl (fun ls hl => ?_)
                  exact hK66 _ w H locs ls h hI (lv_sub hl [2, 0, 3, 4] rfl)
              · skip
                have h := git c32 h
                exact hK57 w H locs ls h hI (lv_sub hl [] rfl)
        exact hL17 64 _ _ w H locs ls h hI (lv_sub hl [1, 3, 2, 0] rfl)
  exact hL4 64 _ _ w H locs ls h hI (lv_sub hl [2, 1, 0] rfl)

abbrev b_B_relation : ByteArray := prog_1_method_35_code
def y_B_relation : MethodName := ⟨"BodySolids", "relation", "(II)I"⟩
theorem d_B_relation_0 : decode b_B_relation 0 = .ok (.iload_n 1, 1) := by decide +kernel
theorem d_B_relation_1 : decode b_B_relation 1 = .ok (.iload_n 2, 1) := by decide +kernel
theorem d_B_relation_2 : decode b_B_relation 2 = .ok (.invokestatic 272, 3) := by decide +kernel
theorem d_B_relation_5 : decode b_B_relation 5 = .ok (.istore_n 3, 1) := by decide +kernel
theorem d_B_relation_6 : decode b_B_relation 6 = .ok (.aload_n 0, 1) := by decide +kernel
theorem d_B_relation_7 : decode b_B_relation 7 = .ok (.getfield 48, 3) := by decide +kernel
theorem d_B_relation_10 : decode b_B_relation 10 = .ok (.iload_n 3, 1) := by decide +kernel
theorem d_B_relation_11 : decode b_B_relation 11 = .ok (.iaload, 1) := by decide +kernel
theorem d_B_relation_12 : decode b_B_relation 12 = .ok (.iconst (-1), 1) := by decide +kernel
theorem d_B_relation_13 : decode b_B_relation 13 = .ok (.if_icmp .ne 57, 3) := by decide +kernel
theorem d_B_relation_16 : decode b_B_relation 16 = .ok (.aload_n 0, 1) := by decide +kernel
theorem d_B_relation_17 : decode b_B_relation 17 = .ok (.getfield 61, 3) := by decide +kernel
theorem d_B_relation_20 : decode b_B_relation 20 = .ok (.aload_n 0, 1) := by decide +kernel
theorem d_B_relation_21 : decode b_B_relation 21 = .ok (.getfield 31, 3) := by decide +kernel
theorem d_B_relation_24 : decode b_B_relation 24 = .ok (.iload_n 1, 1) := by decide +kernel
theorem d_B_relation_25 : decode b_B_relation 25 = .ok (.invokevirtual 205, 3) := by decide +kernel
theorem d_B_relation_28 : decode b_B_relation 28 = .ok (.checkcast 164, 3) := by decide +kernel
theorem d_B_relation_31 : decode b_B_relation 31 = .ok (.aload_n 0, 1) := by decide +kernel
theorem d_B_relation_32 : decode b_B_relation 32 = .ok (.getfield 20, 3) := by decide +kernel
theorem d_B_relation_35 : decode b_B_relation 35 = .ok (.invokevirtual 213, 3) := by decide +kernel
theorem d_B_relation_38 : decode b_B_relation 38 = .ok (.aload_n 0, 1) := by decide +kernel
theorem d_B_relation_39 : decode b_B_relation 39 = .ok (.getfield 65, 3) := by decide +kernel
theorem d_B_relation_42 : decode b_B_relation 42 = .ok (.aload_n 0, 1) := by decide +kernel
theorem d_B_relation_43 : decode b_B_relation 43 = .ok (.getfield 31, 3) := by decide +kernel
theorem d_B_relation_46 : decode b_B_relation 46 = .ok (.iload_n 2, 1) := by decide +kernel
theorem d_B_relation_47 : decode b_B_relation 47 = .ok (.invokevirtual 205, 3) := by decide +kernel
theorem d_B_relation_50 : decode b_B_relation 50 = .ok (.checkcast 164, 3) := by decide +kernel
theorem d_B_relation_53 : decode b_B_relation 53 = .ok (.aload_n 0, 1) := by decide +kernel
theorem d_B_relation_54 : decode b_B_relation 54 = .ok (.getfield 20, 3) := by decide +kernel
theorem d_B_relation_57 : decode b_B_relation 57 = .ok (.invokevirtual 213, 3) := by decide +kernel
theorem d_B_relation_60 : decode b_B_relation 60 = .ok (.aload_n 0, 1) := by decide +kernel
theorem d_B_relation_61 : decode b_B_relation 61 = .ok (.getfield 48, 3) := by decide +kernel
theorem d_B_relation_64 : decode b_B_relation 64 = .ok (.iload_n 3, 1) := by decide +kernel
theorem d_B_relation_65 : decode b_B_relation 65 = .ok (.aload_n 0, 1) := by decide +kernel
theorem d_B_relation_66 : decode b_B_relation 66 = .ok (.invokevirtual 279, 3) := by decide +kernel
theorem d_B_relation_69 : decode b_B_relation 69 = .ok (.iastore, 1) := by decide +kernel
theorem d_B_relation_70 : decode b_B_relation 70 = .ok (.aload_n 0, 1) := by decide +kernel
theorem d_B_relation_71 : decode b_B_relation 71 = .ok (.getfield 48, 3) := by decide +kernel
theorem d_B_relation_74 : decode b_B_relation 74 = .ok (.iload_n 3, 1) := by decide +kernel
theorem d_B_relation_75 : decode b_B_relation 75 = .ok (.iaload, 1) := by decide +kernel
theorem d_B_relation_76 : decode b_B_relation 76 = .ok (.ireturn, 1) := by decide +kernel
abbrev rm_B_relation : Room := { frames := 6, cells := 0, slots := 0, locals := 171 }
theorem ce_B_relation : gCe y_B_relation (.code y_B_relation b_B_relation 4 (some .int)) 4 2 false := gCe.code wd_315 wd_49 wd_314 (by decide) (by decide +kernel)
def f_B_relation (g0 : gG) (a0 : Nat) (p1 : Int32) (p2 : Int32) (w : gW) : gX Int32 := gbind (f_B_relationSlot g0 p1 p2 w) fun v3 w => (gfA w a0 0 7).bind fun v4 => (gaI w v4 v3).bind fun v6 => gjoin (fun K70 => if v6 = (-1) then ((gfA w a0 0 8).bind fun v13 => (gfA w a0 0 2).bind fun v15 => (gck w v15 1).bind fun _ => gbind (f_AL_get g0 v15 p1 w) fun v21 w => (gck w v21 5).bind fun _ => (gfJ w a0 0 0).bind fun v24 => (gck w v13 2).bind fun _ => gbind (f_La_lay g0 v13 v21 v24 w) fun v30 w => (gfA w a0 0 9).bind fun v31 => (gfA w a0 0 2).bind fun v33 => (gck w v33 1).bind fun _ => gbind (f_AL_get g0 v33 p2 w) fun v39 w => (gck w v39 5).bind fun _ => (gfJ w a0 0 0).bind fun v42 => (gck w v31 2).bind fun _ => gbind (f_La_lay g0 v31 v39 v42 w) fun v48 w => (gfA w a0 0 7).bind fun v49 => (gck w a0 0).bind fun _ => gbind (f_B_relationOfLayouts g0 a0 w) fun v55 w => (gsI w v49 v3 v55).bind fun w => K70 w) else (K70 w)) (fun (w : gW) => (gfA w a0 0 7).bind fun v8 => (gaI w v8 v3).bind fun v10 => some (.inr v10, w))
set_option maxHeartbeats 4000000 in
set_option maxRecDepth 100000 in
theorem m_B_relation (l : Launch) (hst : l.stackTraces = false) (D : gD) (g0 : gG) (a0 : Nat) (p1 : Int32) (p2 : Int32) (w : gW) (r : (String ⊕ Int32) × gW) (h : f_B_relation g0 a0 p1 p2 w = some r) : gMet l y_B_relation (.code y_B_relation b_B_relation 4 (some .int)) rm_B_relation D g0 [.ref a0, .int p1, .int p2] w (goI r) := by
  refine gw_ofI (by decide +kernel) (Nat.le_of_ble_eq_true rfl) ?_
  intro p e s m below meth c ls args A Q hx hb hml hown hlocks hin hnt hT hK hZ hA hret hexc hthr hI hl
  obtain ⟨H, hH⟩ : ∃ H, H = s.heap := ⟨_, rfl⟩
  rw [← hH] at hI ⊢
  obtain ⟨locs, hlocs⟩ : ∃ z : List Loc, z = [] := ⟨_, rfl⟩
  rw [← hlocs] at hI ⊢
  have hl : lv_has ls 4 [(0, .ref a0), (1, .int p1), (2, .int p2)] := hl
  unfold f_B_relation at h
  refine lv_iload_n hx hb d_B_relation_0 rfl (lv_at hl 1 rfl) ?_
  refine lv_iload_n hx hb d_B_relation_1 rfl (lv_at hl 2 rfl) ?_
  obtain ⟨u1, e2⟩ := gsome h
  refine gw_callI e2 h (gw_runS (As := [.int p1, .int p2]) (rest := []) hx hb hml hown hT hK hZ hA hI (m_B_relationSlot l hst D g0 p1 p2 w u1 e2) ce_B_relationSlot wd_316 ⟨by decide, by decide⟩ rfl rfl hl.1 rfl (lv_room (Nat.le_of_ble_eq_true rfl)) d_B_relation_2 ⟨(show 0 + 0 ≤ 0 by omega), (show 0 + 0 ≤ 0 by omega)⟩) hI hA hexc (show 0 + 0 ≤ 0 by omega) (show 0 + 0 ≤ 0 by omega) (fun v3 w H locs h hI => ?_)
  refine lv_istore_n (lv' := [(3, .int v3), (0, .ref a0), (1, .int p1), (2, .int p2)]) hx hb d_B_relation_5 rfl hl (by decide) rfl (fun ls hl => ?_)
  refine lv_aload_n hx hb d_B_relation_6 rfl (lv_at hl 1 rfl) ?_
  obtain ⟨v4, e5, h⟩ := gb h
  refine gw_getA hx hb hT hown hK hI (ci := 0) rfl i_0 7 (by decide) wd_196 (fun _ h9 => h9) e5 d_B_relation_7 ?_
  refine lv_iload_n hx hb d_B_relation_10 rfl (lv_at hl 0 rfl) ?_
  obtain ⟨v6, e7, h⟩ := gb h
  refine gw_aldI hx hb hK hI e7 d_B_relation_11 ?_
  refine lv_iconst (v := -1) hx hb d_B_relation_12 (by decide) ?_
  obtain ⟨K70, eK70, h⟩ := gj h
  have hK70 : ∀ (w : gW) (H : Heap) (locs : List Loc) (ls : Array Slot), K70 w = some r → gI D s A w H locs → lv_has ls 4 [(0, .ref a0), (3, .int v3)] → W p l e rm_B_relation s m args below meth c H locs 0 0 Q (F0 m 70 ls []) := by
    intro w H locs ls h hI hl
    have h := gk1 eK70 h
    refine lv_aload_n hx hb d_B_relation_70 rfl (lv_at hl 0 rfl) ?_
    obtain ⟨v8, e9, h⟩ := gb h
    refine gw_getA hx hb hT hown hK hI (ci := 0) rfl i_0 7 (by decide) wd_196 (fun _ h9 => h9) e9 d_B_relation_71 ?_
    refine lv_iload_n hx hb d_B_relation_74 rfl (lv_at hl 1 rfl) ?_
    obtain ⟨v10, e11, h⟩ := gb h
    refine gw_aldI hx hb hK hI e11 d_B_relation_75 ?_
    exact W.widen (show 0 ≤ 0 by omega) (show 0 ≤ 0 by omega) (hret _ _ (Option.some.inj h).symm _ _ _ _ d_B_relation_76 hI)
  refine lv_icmp_ne (tgt := 70) hx hb d_B_relation_13 (by decide) (fun c12 => ?_) (fun c12 => ?_)
  · skip
    have h := gie c12 h
    exact hK70 w H locs ls h hI (lv_sub hl [1, 0] rfl)
  · skip
    have h := git c12 h
    refine lv_aload_n hx hb d_B_relation_16 rfl (lv_at hl 1 rfl) ?_
    obtain ⟨v13, e14, h⟩ := gb h
    refine gw_getA hx hb hT hown hK hI (ci := 0) rfl i_0 8 (by decide) wd_197 (fun _ h9 => h9) e14 d_B_relation_17 ?_
    refine lv_aload_n hx hb d_B_relation_20 rfl (lv_at hl 1 rfl) ?_
    obtain ⟨v15, e16, h⟩ := gb h
    refine gw_getA hx hb hT hown hK hI (ci := 0) rfl i_0 2 (by decide) wd_191 (fun _ h9 => h9) e16 d_B_relation_21 ?_
    refine lv_iload_n hx hb d_B_relation_24 rfl (lv_at hl 2 rfl) ?_
    obtain ⟨q19, e20, h⟩ := gb h
    obtain ⟨u17, e18⟩ := gsome h
    refine gw_callA e18 h (gw_runV (As := [.int p1]) (rest := [.ref v13]) hx hb hml hown hT hK hZ hA hI (ci := 1) rfl e20 (m_AL_get l hst D g0 v15 p1 w u17 e18) ce_AL_get wd_321 wd_323 ⟨by decide, by decide⟩ rfl rfl hl.1 rfl (lv_room (Nat.le_of_ble_eq_true rfl)) d_B_relation_25 ⟨(show 0 + 0 ≤ 0 by omega), (show 0 + 0 ≤ 0 by omega)⟩) hI hA hexc (show 0 + 0 ≤ 0 by omega) (show 0 + 0 ≤ 0 by omega) (fun v21 w H locs h hI => ?_)
    obtain ⟨q23, e22, h⟩ := gb h
    refine gw_cast hx hb hT hown hK hI wd_335 (ci := 5) rfl wd_1123 e22 d_B_relation_28 ?_
    refine lv_aload_n hx hb d_B_relation_31 rfl (lv_at hl 1 rfl) ?_
    obtain ⟨v24, e25, h⟩ := gb h
    refine gw_getJ hx hb hT hown hK hI (ci := 0) rfl i_0 0 (by decide) wd_189 (fun _ h9 => h9) e25 d_B_relation_32 ?_
    obtain ⟨q28, e29, h⟩ := gb h
    obtain ⟨u26, e27⟩ := gsome h
    refine gw_callV e27 h (gw_runV (As := [.ref v21, .long v24]) (rest := []) hx hb hml hown hT hK hZ hA hI (ci := 2) rfl e29 (m_La_lay l hst D g0 v13 v21 v24 w u26 e27) ce_La_lay wd_336 wd_338 ⟨by decide, by decide⟩ rfl rfl hl.1 rfl (lv_room (Nat.le_of_ble_eq_true rfl)) d_B_relation_35 ⟨(show 0 + 0 ≤ 0 by omega), (show 0 + 0 ≤ 0 by omega)⟩) hI hA hexc (show 0 + 0 ≤ 0 by omega) (show 0 + 0 ≤ 0 by omega) (fun v30 w H locs h hI => ?_)
    refine lv_aload_n hx hb d_B_relation_38 rfl (lv_at hl 1 rfl) ?_
    obtain ⟨v31, e32, h⟩ := gb h
    refine gw_getA hx hb hT hown hK hI (ci := 0) rfl i_0 9 (by decide) wd_198 (fun _ h9 => h9) e32 d_B_relation_39 ?_
    refine lv_aload_n hx hb d_B_relation_42 rfl (lv_at hl 1 rfl) ?_
    obtain ⟨v33, e34, h⟩ := gb h
    refine gw_getA hx hb hT hown hK hI (ci := 0) rfl i_0 2 (by decide) wd_191 (fun _ h9 => h9) e34 d_B_relation_43 ?_
    refine lv_iload_n hx hb d_B_relation_46 rfl (lv_at hl 3 rfl) ?_
    obtain ⟨q37, e38, h⟩ := gb h
    obtain ⟨u35, e36⟩ := gsome h
    refine gw_callA e36 h (gw_runV (As := [.int p2]) (rest := [.ref v31]) hx hb hml hown hT hK hZ hA hI (ci := 1) rfl e38 (m_AL_get l hst D g0 v33 p2 w u35 e36) ce_AL_get wd_321 wd_323 ⟨by decide, by decide⟩ rfl rfl hl.1 rfl (lv_room (Nat.le_of_ble_eq_true rfl)) d_B_relation_47 ⟨(show 0 + 0 ≤ 0 by omega), (show 0 + 0 ≤ 0 by omega)⟩) hI hA hexc (show 0 + 0 ≤ 0 by omega) (show 0 + 0 ≤ 0 by omega) (fun v39 w H locs h hI => ?_)
    obtain ⟨q41, e40, h⟩ := gb h
    refine gw_cast hx hb hT hown hK hI wd_335 (ci := 5) rfl wd_1123 e40 d_B_relation_50 ?_
    refine lv_aload_n hx hb d_B_relation_53 rfl (lv_at hl 1 rfl) ?_
    obtain ⟨v42, e43, h⟩ := gb h
    refine gw_getJ hx hb hT hown hK hI (ci := 0) rfl i_0 0 (by decide) wd_189 (fun _ h9 => h9) e43 d_B_relation_54 ?_
    obtain ⟨q46, e47, h⟩ := gb h
    obtain ⟨u44, e45⟩ := gsome h
    refine gw_callV e45 h (gw_runV (As := [.ref v39, .long v42]) (rest := []) hx hb hml hown hT hK hZ hA hI (ci := 2) rfl e47 (m_La_lay l hst D g0 v31 v39 v42 w u44 e45) ce_La_lay wd_336 wd_338 ⟨by decide, by decide⟩ rfl rfl hl.1 rfl (lv_room (Nat.le_of_ble_eq_true rfl)) d_B_relation_57 ⟨(show 0 + 0 ≤ 0 by omega), (show 0 + 0 ≤ 0 by omega)⟩) hI hA hexc (show 0 + 0 ≤ 0 by omega) (show 0 + 0 ≤ 0 by omega) (fun v48 w H locs h hI => ?_)
    refine lv_aload_n hx hb d_B_relation_60 rfl (lv_at hl 1 rfl) ?_
    obtain ⟨v49, e50, h⟩ := gb h
    refine gw_getA hx hb hT hown hK hI (ci := 0) rfl i_0 7 (by decide) wd_196 (fun _ h9 => h9) e50 d_B_relation_61 ?_
    refine lv_iload_n hx hb d_B_relation_64 rfl (lv_at hl 0 rfl) ?_
    refine lv_aload_n hx hb d_B_relation_65 rfl (lv_at hl 1 rfl) ?_
    obtain ⟨q53, e54, h⟩ := gb h
    obtain ⟨u51, e52⟩ := gsome h
    refine gw_callI e52 h (gw_runV (As := []) (rest := [.int v3, .ref v49]) hx hb hml hown hT hK hZ hA hI (ci := 0) rfl e54 (m_B_relationOfLayouts l hst D g0 a0 w u51 e52) ce_B_relationOfLayouts wd_369 wd_5 ⟨by decide, by decide⟩ rfl rfl hl.1 rfl (lv_room (Nat.le_of_ble_eq_true rfl)) d_B_relation_66 ⟨(show 0 + 0 ≤ 0 by omega), (show 0 + 0 ≤ 0 by omega)⟩) hI hA hexc (show 0 + 0 ≤ 0 by omega) (show 0 + 0 ≤ 0 by omega) (fun v55 w H locs h hI => ?_)
    obtain ⟨w, e56, h⟩ := gb h
    refine gw_astI hx hb hK hI e56 d_B_relation_69 (fun H locs hI => ?_)
    exact hK70 w H locs ls h hI (lv_sub hl [1, 0] rfl)

abbrev b_B_pair : ByteArray := prog_1_method_13_code
def y_B_pair : MethodName := ⟨"BodySolids", "pair", "(II)I"⟩
theorem d_B_pair_0 : decode b_B_pair 0 = .ok (.iload_n 2, 1) := by decide +kernel
theorem d_B_pair_1 : decode b_B_pair 1 = .ok (.iconst 2, 1) := by decide +kernel
theorem d_B_pair_2 : decode b_B_pair 2 = .ok (.invokestatic 190, 3) := by decide +kernel
theorem d_B_pair_5 : decode b_B_pair 5 = .ok (.iconst 0, 1) := by decide +kernel
theorem d_B_pair_6 : decode b_B_pair 6 = .ok (.istore_n 3, 1) := by decide +kernel
theorem d_B_pair_7 : decode b_B_pair 7 = .ok (.iconst 0, 1) := by decide +kernel
theorem d_B_pair_8 : decode b_B_pair 8 = .ok (.istore 4, 2) := by decide +kernel
theorem d_B_pair_10 : decode b_B_pair 10 = .ok (.iload 4, 2) := by decide +kernel
theorem d_B_pair_12 : decode b_B_pair 12 = .ok (.aload_n 0, 1) := by decide +kernel
theorem d_B_pair_13 : decode b_B_pair 13 = .ok (.getfield 31, 3) := by decide +kernel
theorem d_B_pair_16 : decode b_B_pair 16 = .ok (.invokevirtual 68, 3) := by decide +kernel
theorem d_B_pair_19 : decode b_B_pair 19 = .ok (.if_icmp .ge 65, 3) := by decide +kernel
theorem d_B_pair_22 : decode b_B_pair 22 = .ok (.iload 4, 2) := by decide +kernel
theorem d_B_pair_24 : decode b_B_pair 24 = .ok (.iconst 1, 1) := by decide +kernel
theorem d_B_pair_25 : decode b_B_pair 25 = .ok (.iadd, 1) := by decide +kernel
theorem d_B_pair_26 : decode b_B_pair 26 = .ok (.istore 5, 2) := by decide +kernel
theorem d_B_pair_28 : decode b_B_pair 28 = .ok (.iload 5, 2) := by decide +kernel
theorem d_B_pair_30 : decode b_B_pair 30 = .ok (.aload_n 0, 1) := by decide +kernel
theorem d_B_pair_31 : decode b_B_pair 31 = .ok (.getfield 31, 3) := by decide +kernel
theorem d_B_pair_34 : decode b_B_pair 34 = .ok (.invokevirtual 68, 3) := by decide +kernel
theorem d_B_pair_37 : decode b_B_pair 37 = .ok (.if_icmp .ge 41, 3) := by decide +kernel
theorem d_B_pair_40 : decode b_B_pair 40 = .ok (.aload_n 0, 1) := by decide +kernel
theorem d_B_pair_41 : decode b_B_pair 41 = .ok (.iload 4, 2) := by decide +kernel
theorem d_B_pair_43 : decode b_B_pair 43 = .ok (.iload 5, 2) := by decide +kernel
theorem d_B_pair_45 : decode b_B_pair 45 = .ok (.invokevirtual 186, 3) := by decide +kernel
theorem d_B_pair_48 : decode b_B_pair 48 = .ok (.iconst 1, 1) := by decide +kernel
theorem d_B_pair_49 : decode b_B_pair 49 = .ok (.if_icmp .ne 23, 3) := by decide +kernel
theorem d_B_pair_52 : decode b_B_pair 52 = .ok (.iload_n 3, 1) := by decide +kernel
theorem d_B_pair_53 : decode b_B_pair 53 = .ok (.iload_n 1, 1) := by decide +kernel
theorem d_B_pair_54 : decode b_B_pair 54 = .ok (.if_icmp .ne 15, 3) := by decide +kernel
theorem d_B_pair_57 : decode b_B_pair 57 = .ok (.iload_n 2, 1) := by decide +kernel
theorem d_B_pair_58 : decode b_B_pair 58 = .ok (.ifCond .ne 8, 3) := by decide +kernel
theorem d_B_pair_61 : decode b_B_pair 61 = .ok (.iload 4, 2) := by decide +kernel
theorem d_B_pair_63 : decode b_B_pair 63 = .ok (.goto 5, 3) := by decide +kernel
theorem d_B_pair_66 : decode b_B_pair 66 = .ok (.iload 5, 2) := by decide +kernel
theorem d_B_pair_68 : decode b_B_pair 68 = .ok (.ireturn, 1) := by decide +kernel
theorem d_B_pair_69 : decode b_B_pair 69 = .ok (.iinc 3 1, 3) := by decide +kernel
theorem d_B_pair_72 : decode b_B_pair 72 = .ok (.iinc 5 1, 3) := by decide +kernel
theorem d_B_pair_75 : decode b_B_pair 75 = .ok (.goto (-47), 3) := by decide +kernel
theorem d_B_pair_78 : decode b_B_pair 78 = .ok (.iinc 4 1, 3) := by decide +kernel
theorem d_B_pair_81 : decode b_B_pair 81 = .ok (.goto (-71), 3) := by decide +kernel
theorem d_B_pair_84 : decode b_B_pair 84 = .ok (.iconst (-1), 1) := by decide +kernel
theorem d_B_pair_85 : decode b_B_pair 85 = .ok (.ireturn, 1) := by decide +kernel
abbrev rm_B_pair : Room := { frames := 8, cells := 1, slots := 6, locals := 194 }
theorem ce_B_pair : gCe y_B_pair (.code y_B_pair b_B_pair 6 (some .int)) 6 2 false := gCe.code wd_703 wd_49 wd_701 (by decide) (by decide +kernel)
def f_B_pair_L28 (g0 : gG) (c0 : Nat) (c1 : Int32) (c2 : Int32) (c4 : Int32) (K78 : Int32 → gW → gX Int32) (K57 : Int32 → Int32 → gW → gX Int32) : Nat → Int32 → Int32 → gW → gX Int32
  | 0, _, _, _ => none
  | n + 1, z3, z5, w => (gfA w c0 0 2).bind fun v17 => (gck w v17 1).bind fun _ => gbind (f_AL_size g0 v17 w) fun v23 w => if v23 ≤ z5 then (K78 z3 w) else ((gck w c0 0).bind fun _ => gbind (f_B_relation g0 c0 c4 z5 w) fun v29 w => gjoin (fun K72 => if v29 = 1 then (if z3 = c1 then (K57 c4 z5 w) else (K72 (z3 + 1) w)) else (K72 z3 w)) (fun (x30 : Int32) (w : gW) => f_B_pair_L28 g0 c0 c1 c2 c4 K78 K57 n x30 (z5 + 1) w))
def f_B_pair_L10 (g0 : gG) (c0 : Nat) (c1 : Int32) (c2 : Int32) (K84 : gW → gX Int32) (K57 : Int32 → Int32 → gW → gX Int32) : Nat → Int32 → Int32 → gW → gX Int32
  | 0, _, _, _ => none
  | n + 1, z3, z4, w => (gfA w c0 0 2).bind fun v8 => (gck w v8 1).bind fun _ => gbind (f_AL_size g0 v8 w) fun v14 w => if v14 ≤ z4 then (K84 w) else (gjoin (fun K78 => f_B_pair_L28 g0 c0 c1 c2 z4 K78 K57 64 z3 (z4 + 1) w) (fun (x16 : Int32) (w : gW) => f_B_pair_L10 g0 c0 c1 c2 K84 K57 n x16 (z4 + 1) w))
def f_B_pair (g0 : gG) (a0 : Nat) (p1 : Int32) (p2 : Int32) (w : gW) : gX Int32 := gbind (f_B_needIndex g0 p2 2 w) fun v3 w => gjoin (fun K84 => gjoin (fun K57 => f_B_pair_L10 g0 a0 p1 p2 K84 K57 64 0 0 w) (fun (x4 : Int32) (x5 : Int32) (w : gW) => gjoin (fun K68 => if p2 = 0 then (K68 x4 w) else (K68 x5 w)) (fun (y6 : Int32) (w : gW) => some (.inr y6, w)))) (fun (w : gW) => some (.inr (-1), w))
set_option maxHeartbeats 4000000 in
set_option maxRecDepth 100000 in
theorem m_B_pair (l : Launch) (hst : l.stackTraces = false) (D : gD) (g0 : gG) (a0 : Nat) (p1 : Int32) (p2 : Int32) (w : gW) (r : (String ⊕ Int32) × gW) (h : f_B_pair g0 a0 p1 p2 w = some r) : gMet l y_B_pair (.code y_B_pair b_B_pair 6 (some .int)) rm_B_pair D g0 [.ref a0, .int p1, .int p2] w (goI r) := by
  refine gw_ofI (by decide +kernel) (Nat.le_of_ble_eq_true rfl) ?_
  intro p e s m below meth c ls args A Q hx hb hml hown hlocks hin hnt hT hK hZ hA hret hexc hthr hI hl
  obtain ⟨H, hH⟩ : ∃ H, H = s.heap := ⟨_, rfl⟩
  rw [← hH] at hI ⊢
  obtain ⟨locs, hlocs⟩ : ∃ z : List Loc, z = [] := ⟨_, rfl⟩
  rw [← hlocs] at hI ⊢
  have hl : lv_has ls 6 [(0, .ref a0), (1, .int p1), (2, .int p2)] := hl
  unfold f_B_pair at h
  refine lv_iload_n hx hb d_B_pair_0 rfl (lv_at hl 2 rfl) ?_
  refine lv_iconst (v := 2) hx hb d_B_pair_1 (by decide) ?_
  obtain ⟨u1, e2⟩ := gsome h
  refine gw_callV e2 h (gw_runS (As := [.int p2, .int 2]) (rest := []) hx hb hml hown hT hK hZ hA hI (m_B_needIndex l hst D g0 p2 2 w u1 e2) ce_B_needIndex wd_440 ⟨by decide, by decide⟩ rfl rfl hl.1 rfl (lv_room (Nat.le_of_ble_eq_true rfl)) d_B_pair_2 ⟨(show 0 + 1 ≤ 1 by omega), (show 0 + 6 ≤ 6 by omega)⟩) hI hA hexc (show 0 + 1 ≤ 1 by omega) (show 0 + 6 ≤ 6 by omega) (fun v3 w H locs h hI => ?_)
  refine W.widen (k := 1) (n := 6) (show 0 + 1 ≤ 1 by omega) (show 0 + 6 ≤ 6 by omega) ?_
  refine lv_iconst (v := 0) hx hb d_B_pair_5 (by decide) ?_
  refine lv_istore_n (lv' := [(3, .int 0), (0, .ref a0), (1, .int p1), (2, .int p2)]) hx hb d_B_pair_6 rfl hl (by decide) rfl (fun ls hl => ?_)
  refine lv_iconst (v := 0) hx hb d_B_pair_7 (by decide) ?_
  refine lv_istore (lv' := [(4, .int 0), (3, .int 0), (0, .ref a0), (1, .int p1), (2, .int p2)]) hx hb d_B_pair_8 hl (by decide) rfl (fun ls hl => ?_)
  obtain ⟨K84, eK84, h⟩ := gj h
  have hK84 : ∀ (w : gW) (H : Heap) (locs : List Loc) (ls : Array Slot), K84 w = some r → gI D s A w H locs → lv_has ls 6 [] → W p l e rm_B_pair s m args below meth c H locs 1 6 Q (F0 m 84 ls []) := by
    intro w H locs ls h hI hl
    have h := gk1 eK84 h
    refine lv_iconst (v := -1) hx hb d_B_pair_84 (by decide) ?_
    exact W.widen (show 1 ≤ 1 by omega) (show 6 ≤ 6 by omega) (hret _ _ (Option.some.inj h).symm _ _ _ _ d_B_pair_85 hI)
  obtain ⟨K57, eK57, h⟩ := gj h
  have hK57 : ∀ (x4 : Int32) (x5 : Int32) (w : gW) (H : Heap) (locs : List Loc) (ls : Array Slot), K57 x4 x5 w = some r → gI D s A w H locs → lv_has ls 6 [(2, .int p2), (4, .int x4), (5, .int x5)] → W p l e rm_B_pair s m args below meth c H locs 1 6 Q (F0 m 57 ls []) := by
    intro x4 x5 w H locs ls h hI hl
    have h := gk3 eK57 h
    refine lv_iload_n hx hb d_B_pair_57 rfl (lv_at hl 0 rfl) ?_
    obtain ⟨K68, eK68, h⟩ := gj h
    have hK68 : ∀ (y6 : Int32) (w : gW) (H : Heap) (locs : List Loc) (ls : Array Slot), K68 y6 w = some r → gI D s A w H locs → lv_has ls 6 [] → W p l e rm_B_pair s m args below meth c H locs 1 6 Q (F0 m 68 ls [.int y6]) := by
      intro y6 w H locs ls h hI hl
      have h := gk2 eK68 h
      exact W.widen (show 1 ≤ 1 by omega) (show 6 ≤ 6 by omega) (hret _ _ (Option.some.inj h).symm _ _ _ _ d_B_pair_68 hI)
    refine lv_if_ne (tgt := 66) hx hb d_B_pair_58 (by decide) (fun c7 => ?_) (fun c7 => ?_)
    · skip
      have h := gie c7 h
      refine lv_iload hx hb d_B_pair_66 (lv_at hl 2 rfl) ?_
      exact hK68 _ w H locs ls h hI (lv_sub hl [] rfl)
    · skip
      have h := git c7 h
      refine lv_iload hx hb d_B_pair_61 (lv_at hl 1 rfl) ?_
      refine lv_goto (tgt := 68) hx hb d_B_pair_63 (by decide) ?_
      exact hK68 _ w H locs ls h hI (lv_sub hl [] rfl)
  have hL10 : ∀ (n : Nat), ∀ (z8 : Int32) (z9 : Int32) (w : gW) (H : Heap) (locs : List Loc) (ls : Array Slot), f_B_pair_L10 g0 a0 p1 p2 K84 K57 n z8 z9 w = some r → gI D s A w H locs → lv_has ls 6 [(0, .ref a0), (1, .int p1), (2, .int p2), (3, .int z8), (4, .int z9)] → W p l e rm_B_pair s m args below meth c H locs 1 6 Q (F0 m 10 ls []) := by
    intro n
    induction n with
    | zero => intro z8 z9 w H locs ls h hI hl; exact absurd h (by simp [f_B_pair_L10])
    | succ n ih =>
      intro z8 z9 w H locs ls h hI hl
      rw [f_B_pair_L10] at h
      refine lv_iload hx hb d_B_pair_10 (lv_at hl 4 rfl) ?_
      refine lv_aload_n hx hb d_B_pair_12 rfl (lv_at hl 0 rfl) ?_
      obtain ⟨v10, e11, h⟩ := gb h
      refine gw_getA hx hb hT hown hK hI (ci := 0) rfl i_0 2 (by decide) wd_191 (fun _ h9 => h9) e11 d_B_pair_13 ?_
      obtain ⟨q14, e15, h⟩ := gb h
      obtain ⟨u12, e13⟩ := gsome h
      refine gw_callI e13 h (gw_runV (As := []) (rest := [.int z9]) hx hb hml hown hT hK hZ hA hI (ci := 1) rfl e15 (m_AL_size l hst D g0 v10 w u12 e13) ce_AL_size wd_224 wd_226 ⟨by decide, by decide⟩ rfl rfl hl.1 rfl (lv_room (Nat.le_of_ble_eq_true rfl)) d_B_pair_16 ⟨(show 1 + 0 ≤ 1 by omega), (show 6 + 0 ≤ 6 by omega)⟩) hI hA hexc (show 1 + 0 ≤ 1 by omega) (show 6 + 0 ≤ 6 by omega) (fun v16 w H locs h hI => ?_)
      refine lv_icmp_ge (tgt := 84) hx hb d_B_pair_19 (by decide) (fun c17 => ?_) (fun c17 => ?_)
      · skip
        have h := git c17 h
        exact hK84 w H locs ls h hI (lv_sub hl [] rfl)
      · skip
        have h := gie c17 h
        refine lv_iload hx hb d_B_pair_22 (lv_at hl 4 rfl) ?_
        refine lv_iconst (v := 1) hx hb d_B_pair_24 (by decide) ?_
        refine lv_iadd hx hb d_B_pair_25 ?_
        refine lv_istore (lv' := [(5, .int (z9 + 1)), (0, .ref a0), (1, .int p1), (2, .int p2), (3, .int z8), (4, .int z9)]) hx hb d_B_pair_26 hl (by decide) rfl (fun ls hl => ?_)
        obtain ⟨K78, eK78, h⟩ := gj h
        have hK78 : ∀ (x18 : Int32) (w : gW) (H : Heap) (locs : List Loc) (ls : Array Slot), K78 x18 w = some r → gI D s A w H locs → lv_has ls 6 [(0, .ref a0), (1, .int p1), (2, .int p2), (3, .int x18), (4, .int z9)] → W p l e rm_B_pair s m args below meth c H locs 1 6 Q (F0 m 78 ls []) := by
          intro x18 w H locs ls h hI hl
          have h := gk2 eK78 h
          refine lv_iinc (v := z9 + 1) (lv' := [(4, .int (z9 + 1)), (0, .ref a0), (1, .int p1), (2, .int p2), (3, .int x18)]) hx hb d_B_pair_78 hl (k := 4) rfl rfl (by decide) rfl (fun ls hl => ?_)
          refine lv_goto (tgt := 10) hx hb d_B_pair_81 (by decide) ?_
          exact ih _ _ w H locs ls h hI (lv_sub hl [1, 2, 3, 4, 0] rfl)
        have hL28 : ∀ (n : Nat), ∀ (z19 : Int32) (z20 : Int32) (w : gW) (H : Heap) (locs : List Loc) (ls : Array Slot), f_B_pair_L28 g0 a0 p1 p2 z9 K78 K57 n z19 z20 w = some r → gI D s A w H locs → lv_has ls 6 [(0, .ref a0), (1, .int p1), (2, .int p2), (4, .int z9), (3, .int z19), (5, .int z20)] → W p l e rm_B_pair s m args below meth c H locs 1 6 Q (F0 m 28 ls []) := by
          intro n
          induction n with
          | zero => intro z19 z20 w H locs ls h hI hl; exact absurd h (by simp [f_B_pair_L28])
          | succ n ih =>
            intro z19 z20 w H locs ls h hI hl
            rw [f_B_pair_L28] at h
            refine lv_iload hx hb d_B_pair_28 (lv_at hl 5 rfl) ?_
            refine lv_aload_n hx hb d_B_pair_30 rfl (lv_at hl 0 rfl) ?_
            obtain ⟨v21, e22, h⟩ := gb h
            refine gw_getA hx hb hT hown hK hI (ci := 0) rfl i_0 2 (by decide) wd_191 (fun _ h9 => h9) e22 d_B_pair_31 ?_
            obtain ⟨q25, e26, h⟩ := gb h
            obtain ⟨u23, e24⟩ := gsome h
            refine gw_callI e24 h (gw_runV (As := []) (rest := [.int z20]) hx hb hml hown hT hK hZ hA hI (ci := 1) rfl e26 (m_AL_size l hst D g0 v21 w u23 e24) ce_AL_size wd_224 wd_226 ⟨by decide, by decide⟩ rfl rfl hl.1 rfl (lv_room (Nat.le_of_ble_eq_true rfl)) d_B_pair_34 ⟨(show 1 + 0 ≤ 1 by omega), (show 6 + 0 ≤ 6 by omega)⟩) hI hA hexc (show 1 + 0 ≤ 1 by omega) (show 6 + 0 ≤ 6 by omega) (fun v27 w H locs h hI => ?_)
            refine lv_icmp_ge (tgt := 78) hx hb d_B_pair_37 (by decide) (fun c28 => ?_) (fun c28 => ?_)
            · skip
              have h := git c28 h
              exact hK78 _ w H locs ls h hI (lv_sub hl [0, 1, 2, 4, 3] rfl)
            · skip
              have h := gie c28 h
              refine lv_aload_n hx hb d_B_pair_40 rfl (lv_at hl 0 rfl) ?_
              refine lv_iload hx hb d_B_pair_41 (lv_at hl 3 rfl) ?_
              refine lv_iload hx hb d_B_pair_43 (lv_at hl 5 rfl) ?_
              obtain ⟨q31, e32, h⟩ := gb h
              obtain ⟨u29, e30⟩ := gsome h
              refine gw_callI e30 h (gw_runV (As := [.int z9, .int z20]) (rest := []) hx hb hml hown hT hK hZ hA hI (ci := 0) rfl e32 (m_B_relation l hst D g0 a0 z9 z20 w u29 e30) ce_B_relation wd_312 wd_4 ⟨by decide, by decide⟩ rfl rfl hl.1 rfl (lv_room (Nat.le_of_ble_eq_true rfl)) d_B_pair_45 ⟨(show 1 + 0 ≤ 1 by omega), (show 6 + 0 ≤ 6 by omega)⟩) hI hA hexc (show 1 + 0 ≤ 1 by omega) (show 6 + 0 ≤ 6 by omega) (fun v33 w H locs h hI => ?_)
              refine lv_iconst (v := 1) hx hb d_B_pair_48 (by decide) ?_
              obtain ⟨K72, eK72, h⟩ := gj h
              have hK72 : ∀ (x34 : Int32) (w : gW) (H : Heap) (locs : List Loc) (ls : Array Slot), K72 x34 w = some r → gI D s A w H locs → lv_has ls 6 [(0, .ref a0), (1, .int p1), (2, .int p2), (3, .int x34), (4, .int z9), (5, .int z20)] → W p l e rm_B_pair s m args below meth c H locs 1 6 Q (F0 m 72 ls []) := by
                intro x34 w H locs ls h hI hl
                have h := gk2 eK72 h
                refine lv_iinc (v := z20 + 1) (lv' := [(5, .int (z20 + 1)), (0, .ref a0), (1, .int p1), (2, .int p2), (3, .int x34), (4, .int z9)]) hx hb d_B_pair_72 hl (k := 5) rfl rfl (by decide) rfl (fun ls hl => ?_)
                refine lv_goto (tgt := 28) hx hb d_B_pair_75 (by decide) ?_
                exact ih _ _ w H locs ls h hI (lv_sub hl [1, 2, 3, 5, 4, 0] rfl)
              refine lv_icmp_ne (tgt := 72) hx hb d_B_pair_49 (by decide) (fun c35 => ?_) (fun c35 => ?_)
              · skip
                have h := gie c35 h
                exact hK72 _ w H locs ls h hI (lv_sub hl [0, 1, 2, 4, 3, 5] rfl)
              · skip
                have h := git c35 h
                refine lv_iload_n hx hb d_B_pair_52 rfl (lv_at hl 4 rfl) ?_
                refine lv_iload_n hx hb d_B_pair_53 rfl (lv_at hl 1 rfl) ?_
                refine lv_icmp_ne (tgt := 69) hx hb d_B_pair_54 (by decide) (fun c36 => ?_) (fun c36 => ?_)
                · skip
                  have h := gie c36 h
                  refine lv_iinc (v := z19 + 1) (lv' := [(3, .int (z19 + 1)), (0, .ref a0), (1, .int p1), (2, .int p2), (4, .int z9), (5, .int z20)]) hx hb d_B_pair_69 hl (k := 4) rfl rfl (by decide) rfl (fun ls hl => ?_)
                  exact hK72 _ w H locs ls h hI (lv_sub hl [1, 2, 3, 0, 4, 5] rfl)
                · skip
                  have h := git c36 h
                  exact hK57 _ _ w H locs ls h hI (lv_sub hl [2, 3, 5] rfl)
        exact hL28 64 _ _ w H locs ls h hI (lv_sub hl [1, 2, 3, 5, 4, 0] rfl)
  exact hL10 64 _ _ w H locs ls h hI (lv_sub hl [2, 3, 4, 1, 0] rfl)
