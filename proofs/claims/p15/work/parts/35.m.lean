abbrev b_Me_of : ByteArray := prog_5_method_2_code
def y_Me_of : MethodName := ⟨"BodySolids$Meeting", "of", "(LBodySolids$Solid;LBodySolids$Solid;)I"⟩
theorem d_Me_of_0 : decode b_Me_of 0 = .ok (.aload_n 0, 1) := by decide +kernel
theorem d_Me_of_1 : decode b_Me_of 1 = .ok (.getfield 9, 3) := by decide +kernel
theorem d_Me_of_4 : decode b_Me_of 4 = .ok (.aload_n 1, 1) := by decide +kernel
theorem d_Me_of_5 : decode b_Me_of 5 = .ok (.getfield 9, 3) := by decide +kernel
theorem d_Me_of_8 : decode b_Me_of 8 = .ok (.ladd, 1) := by decide +kernel
theorem d_Me_of_9 : decode b_Me_of 9 = .ok (.lstore_n 2, 1) := by decide +kernel
theorem d_Me_of_10 : decode b_Me_of 10 = .ok (.aload_n 0, 1) := by decide +kernel
theorem d_Me_of_11 : decode b_Me_of 11 = .ok (.getfield 15, 3) := by decide +kernel
theorem d_Me_of_14 : decode b_Me_of 14 = .ok (.aload_n 1, 1) := by decide +kernel
theorem d_Me_of_15 : decode b_Me_of 15 = .ok (.getfield 15, 3) := by decide +kernel
theorem d_Me_of_18 : decode b_Me_of 18 = .ok (.ladd, 1) := by decide +kernel
theorem d_Me_of_19 : decode b_Me_of 19 = .ok (.lstore 4, 2) := by decide +kernel
theorem d_Me_of_21 : decode b_Me_of 21 = .ok (.aload_n 0, 1) := by decide +kernel
theorem d_Me_of_22 : decode b_Me_of 22 = .ok (.getfield 18, 3) := by decide +kernel
theorem d_Me_of_25 : decode b_Me_of 25 = .ok (.aload_n 0, 1) := by decide +kernel
theorem d_Me_of_26 : decode b_Me_of 26 = .ok (.getfield 21, 3) := by decide +kernel
theorem d_Me_of_29 : decode b_Me_of 29 = .ok (.aload_n 1, 1) := by decide +kernel
theorem d_Me_of_30 : decode b_Me_of 30 = .ok (.getfield 18, 3) := by decide +kernel
theorem d_Me_of_33 : decode b_Me_of 33 = .ok (.aload_n 1, 1) := by decide +kernel
theorem d_Me_of_34 : decode b_Me_of 34 = .ok (.getfield 21, 3) := by decide +kernel
theorem d_Me_of_37 : decode b_Me_of 37 = .ok (.invokestatic 24, 3) := by decide +kernel
theorem d_Me_of_40 : decode b_Me_of 40 = .ok (.lstore 6, 2) := by decide +kernel
theorem d_Me_of_42 : decode b_Me_of 42 = .ok (.aload_n 0, 1) := by decide +kernel
theorem d_Me_of_43 : decode b_Me_of 43 = .ok (.getfield 30, 3) := by decide +kernel
theorem d_Me_of_46 : decode b_Me_of 46 = .ok (.aload_n 0, 1) := by decide +kernel
theorem d_Me_of_47 : decode b_Me_of 47 = .ok (.getfield 33, 3) := by decide +kernel
theorem d_Me_of_50 : decode b_Me_of 50 = .ok (.aload_n 1, 1) := by decide +kernel
theorem d_Me_of_51 : decode b_Me_of 51 = .ok (.getfield 30, 3) := by decide +kernel
theorem d_Me_of_54 : decode b_Me_of 54 = .ok (.aload_n 1, 1) := by decide +kernel
theorem d_Me_of_55 : decode b_Me_of 55 = .ok (.getfield 33, 3) := by decide +kernel
theorem d_Me_of_58 : decode b_Me_of 58 = .ok (.invokestatic 24, 3) := by decide +kernel
theorem d_Me_of_61 : decode b_Me_of 61 = .ok (.lstore 8, 2) := by decide +kernel
theorem d_Me_of_63 : decode b_Me_of 63 = .ok (.aload_n 0, 1) := by decide +kernel
theorem d_Me_of_64 : decode b_Me_of 64 = .ok (.getfield 36, 3) := by decide +kernel
theorem d_Me_of_67 : decode b_Me_of 67 = .ok (.aload_n 0, 1) := by decide +kernel
theorem d_Me_of_68 : decode b_Me_of 68 = .ok (.getfield 39, 3) := by decide +kernel
theorem d_Me_of_71 : decode b_Me_of 71 = .ok (.aload_n 1, 1) := by decide +kernel
theorem d_Me_of_72 : decode b_Me_of 72 = .ok (.getfield 36, 3) := by decide +kernel
theorem d_Me_of_75 : decode b_Me_of 75 = .ok (.aload_n 1, 1) := by decide +kernel
theorem d_Me_of_76 : decode b_Me_of 76 = .ok (.getfield 39, 3) := by decide +kernel
theorem d_Me_of_79 : decode b_Me_of 79 = .ok (.invokestatic 24, 3) := by decide +kernel
theorem d_Me_of_82 : decode b_Me_of 82 = .ok (.lstore 10, 2) := by decide +kernel
theorem d_Me_of_84 : decode b_Me_of 84 = .ok (.lload 6, 2) := by decide +kernel
theorem d_Me_of_86 : decode b_Me_of 86 = .ok (.lload_n 2, 1) := by decide +kernel
theorem d_Me_of_87 : decode b_Me_of 87 = .ok (.lload 4, 2) := by decide +kernel
theorem d_Me_of_89 : decode b_Me_of 89 = .ok (.ladd, 1) := by decide +kernel
theorem d_Me_of_90 : decode b_Me_of 90 = .ok (.lcmp, 1) := by decide +kernel
theorem d_Me_of_91 : decode b_Me_of 91 = .ok (.ifCond .gt 21, 3) := by decide +kernel
theorem d_Me_of_94 : decode b_Me_of 94 = .ok (.lload 8, 2) := by decide +kernel
theorem d_Me_of_96 : decode b_Me_of 96 = .ok (.lload_n 2, 1) := by decide +kernel
theorem d_Me_of_97 : decode b_Me_of 97 = .ok (.lload 4, 2) := by decide +kernel
theorem d_Me_of_99 : decode b_Me_of 99 = .ok (.ladd, 1) := by decide +kernel
theorem d_Me_of_100 : decode b_Me_of 100 = .ok (.lcmp, 1) := by decide +kernel
theorem d_Me_of_101 : decode b_Me_of 101 = .ok (.ifCond .gt 11, 3) := by decide +kernel
theorem d_Me_of_104 : decode b_Me_of 104 = .ok (.lload 10, 2) := by decide +kernel
theorem d_Me_of_106 : decode b_Me_of 106 = .ok (.lload 4, 2) := by decide +kernel
theorem d_Me_of_108 : decode b_Me_of 108 = .ok (.lcmp, 1) := by decide +kernel
theorem d_Me_of_109 : decode b_Me_of 109 = .ok (.ifCond .le 5, 3) := by decide +kernel
theorem d_Me_of_112 : decode b_Me_of 112 = .ok (.iconst 1, 1) := by decide +kernel
theorem d_Me_of_113 : decode b_Me_of 113 = .ok (.ireturn, 1) := by decide +kernel
theorem d_Me_of_114 : decode b_Me_of 114 = .ok (.lload 4, 2) := by decide +kernel
theorem d_Me_of_116 : decode b_Me_of 116 = .ok (.lconst 0, 1) := by decide +kernel
theorem d_Me_of_117 : decode b_Me_of 117 = .ok (.lcmp, 1) := by decide +kernel
theorem d_Me_of_118 : decode b_Me_of 118 = .ok (.ifCond .ne 38, 3) := by decide +kernel
theorem d_Me_of_121 : decode b_Me_of 121 = .ok (.lload_n 2, 1) := by decide +kernel
theorem d_Me_of_122 : decode b_Me_of 122 = .ok (.lconst 0, 1) := by decide +kernel
theorem d_Me_of_123 : decode b_Me_of 123 = .ok (.lcmp, 1) := by decide +kernel
theorem d_Me_of_124 : decode b_Me_of 124 = .ok (.ifCond .ne 11, 3) := by decide +kernel
theorem d_Me_of_127 : decode b_Me_of 127 = .ok (.aload_n 0, 1) := by decide +kernel
theorem d_Me_of_128 : decode b_Me_of 128 = .ok (.aload_n 1, 1) := by decide +kernel
theorem d_Me_of_129 : decode b_Me_of 129 = .ok (.invokestatic 42, 3) := by decide +kernel
theorem d_Me_of_132 : decode b_Me_of 132 = .ok (.goto 11, 3) := by decide +kernel
theorem d_Me_of_135 : decode b_Me_of 135 = .ok (.aload_n 0, 1) := by decide +kernel
theorem d_Me_of_136 : decode b_Me_of 136 = .ok (.aload_n 1, 1) := by decide +kernel
theorem d_Me_of_137 : decode b_Me_of 137 = .ok (.lload_n 2, 1) := by decide +kernel
theorem d_Me_of_138 : decode b_Me_of 138 = .ok (.lload_n 2, 1) := by decide +kernel
theorem d_Me_of_139 : decode b_Me_of 139 = .ok (.lmul, 1) := by decide +kernel
theorem d_Me_of_140 : decode b_Me_of 140 = .ok (.invokestatic 46, 3) := by decide +kernel
theorem d_Me_of_143 : decode b_Me_of 143 = .ok (.istore 12, 2) := by decide +kernel
theorem d_Me_of_145 : decode b_Me_of 145 = .ok (.iload 12, 2) := by decide +kernel
theorem d_Me_of_147 : decode b_Me_of 147 = .ok (.lload 10, 2) := by decide +kernel
theorem d_Me_of_149 : decode b_Me_of 149 = .ok (.invokestatic 50, 3) := by decide +kernel
theorem d_Me_of_152 : decode b_Me_of 152 = .ok (.invokestatic 54, 3) := by decide +kernel
theorem d_Me_of_155 : decode b_Me_of 155 = .ok (.ireturn, 1) := by decide +kernel
theorem d_Me_of_156 : decode b_Me_of 156 = .ok (.lload 4, 2) := by decide +kernel
theorem d_Me_of_158 : decode b_Me_of 158 = .ok (.lload 4, 2) := by decide +kernel
theorem d_Me_of_160 : decode b_Me_of 160 = .ok (.lmul, 1) := by decide +kernel
theorem d_Me_of_161 : decode b_Me_of 161 = .ok (.lload 10, 2) := by decide +kernel
theorem d_Me_of_163 : decode b_Me_of 163 = .ok (.invokestatic 60, 3) := by decide +kernel
theorem d_Me_of_166 : decode b_Me_of 166 = .ok (.lsub, 1) := by decide +kernel
theorem d_Me_of_167 : decode b_Me_of 167 = .ok (.lstore 12, 2) := by decide +kernel
theorem d_Me_of_169 : decode b_Me_of 169 = .ok (.lload_n 2, 1) := by decide +kernel
theorem d_Me_of_170 : decode b_Me_of 170 = .ok (.lconst 0, 1) := by decide +kernel
theorem d_Me_of_171 : decode b_Me_of 171 = .ok (.lcmp, 1) := by decide +kernel
theorem d_Me_of_172 : decode b_Me_of 172 = .ok (.ifCond .ne 11, 3) := by decide +kernel
theorem d_Me_of_175 : decode b_Me_of 175 = .ok (.aload_n 0, 1) := by decide +kernel
theorem d_Me_of_176 : decode b_Me_of 176 = .ok (.aload_n 1, 1) := by decide +kernel
theorem d_Me_of_177 : decode b_Me_of 177 = .ok (.lload 12, 2) := by decide +kernel
theorem d_Me_of_179 : decode b_Me_of 179 = .ok (.invokestatic 46, 3) := by decide +kernel
theorem d_Me_of_182 : decode b_Me_of 182 = .ok (.ireturn, 1) := by decide +kernel
theorem d_Me_of_183 : decode b_Me_of 183 = .ok (.lload 6, 2) := by decide +kernel
theorem d_Me_of_185 : decode b_Me_of 185 = .ok (.invokestatic 60, 3) := by decide +kernel
theorem d_Me_of_188 : decode b_Me_of 188 = .ok (.lload 8, 2) := by decide +kernel
theorem d_Me_of_190 : decode b_Me_of 190 = .ok (.invokestatic 60, 3) := by decide +kernel
theorem d_Me_of_193 : decode b_Me_of 193 = .ok (.ladd, 1) := by decide +kernel
theorem d_Me_of_194 : decode b_Me_of 194 = .ok (.lload_n 2, 1) := by decide +kernel
theorem d_Me_of_195 : decode b_Me_of 195 = .ok (.lload 12, 2) := by decide +kernel
theorem d_Me_of_197 : decode b_Me_of 197 = .ok (.invokestatic 64, 3) := by decide +kernel
theorem d_Me_of_200 : decode b_Me_of 200 = .ok (.ireturn, 1) := by decide +kernel
abbrev rm_Me_of : Room := { frames := 4, cells := 0, slots := 0, locals := 114 }
theorem ce_Me_of : gCe y_Me_of (.code y_Me_of b_Me_of 14 (some .int)) 14 2 true := gCe.code wd_375 wd_69 wd_374 (by decide) (by decide +kernel)
def f_Me_of (g0 : gG) (a0 : Nat) (a1 : Nat) (w : gW) : gX Int32 := (gfJ w a0 3 1).bind fun v1 => (gfJ w a1 3 1).bind fun v3 => (gfJ w a0 3 2).bind fun v5 => (gfJ w a1 3 2).bind fun v7 => (gfJ w a0 3 6).bind fun v9 => (gfJ w a0 3 9).bind fun v11 => (gfJ w a1 3 6).bind fun v13 => (gfJ w a1 3 9).bind fun v15 => gbind (f_Me_gap g0 v9 v11 v13 v15 w) fun v19 w => (gfJ w a0 3 7).bind fun v20 => (gfJ w a0 3 10).bind fun v22 => (gfJ w a1 3 7).bind fun v24 => (gfJ w a1 3 10).bind fun v26 => gbind (f_Me_gap g0 v20 v22 v24 v26 w) fun v30 w => (gfJ w a0 3 8).bind fun v31 => (gfJ w a0 3 11).bind fun v33 => (gfJ w a1 3 8).bind fun v35 => (gfJ w a1 3 11).bind fun v37 => gbind (f_Me_gap g0 v31 v33 v35 v37 w) fun v41 w => gjoin (fun K112 => if ((v1 + v3) + (v5 + v7)) < v19 then (K112 w) else (if ((v1 + v3) + (v5 + v7)) < v30 then (K112 w) else (if v41 ≤ (v5 + v7) then (if (v5 + v7) = 0 then (gjoin (fun K143 => if (v1 + v3) = 0 then (gbind (f_Me_outlines g0 a0 a1 w) fun v75 w => K143 v75 w) else (gbind (f_Me_distance g0 a0 a1 ((v1 + v3) * (v1 + v3)) w) fun v72 w => K143 v72 w)) (fun (y62 : Int32) (w : gW) => gbind (f_Me_sign g0 v41 w) fun v65 w => gbind (f_Ma_max g0 y62 v65 w) fun v68 w => some (.inr v68, w))) else (gbind (f_Me_squareIfAbove g0 v41 w) fun v48 w => if (v1 + v3) = 0 then (gbind (f_Me_distance g0 a0 a1 (((v5 + v7) * (v5 + v7)) - v48) w) fun v61 w => some (.inr v61, w)) else (gbind (f_Me_squareIfAbove g0 v19 w) fun v52 w => gbind (f_Me_squareIfAbove g0 v30 w) fun v55 w => gbind (f_Me_discAndRound g0 (v52 + v55) (v1 + v3) (((v5 + v7) * (v5 + v7)) - v48) w) fun v58 w => some (.inr v58, w)))) else (K112 w)))) (fun (w : gW) => some (.inr 1, w))
set_option maxHeartbeats 4000000 in
set_option maxRecDepth 100000 in
theorem m_Me_of (l : Launch) (hst : l.stackTraces = false) (D : gD) (g0 : gG) (a0 : Nat) (a1 : Nat) (w : gW) (r : (String ⊕ Int32) × gW) (h : f_Me_of g0 a0 a1 w = some r) : gMet l y_Me_of (.code y_Me_of b_Me_of 14 (some .int)) rm_Me_of D g0 [.ref a0, .ref a1] w (goI r) := by
  refine gw_ofI (by decide +kernel) (Nat.le_of_ble_eq_true rfl) ?_
  intro p e s m below meth c ls args A Q hx hb hml hown hlocks hin hnt hT hK hZ hA hret hexc hthr hI hl
  obtain ⟨H, hH⟩ : ∃ H, H = s.heap := ⟨_, rfl⟩
  rw [← hH] at hI ⊢
  obtain ⟨locs, hlocs⟩ : ∃ z : List Loc, z = [] := ⟨_, rfl⟩
  rw [← hlocs] at hI ⊢
  have hl : lv_has ls 14 [(0, .ref a0), (1, .ref a1)] := hl
  unfold f_Me_of at h
  refine lv_aload_n hx hb d_Me_of_0 rfl (lv_at hl 0 rfl) ?_
  obtain ⟨v1, e2, h⟩ := gb h
  refine gw_getJ hx hb hT hown hK hI (ci := 3) rfl i_3 1 (by decide) wd_131 (fun _ h9 => h9) e2 d_Me_of_1 ?_
  refine lv_aload_n hx hb d_Me_of_4 rfl (lv_at hl 1 rfl) ?_
  obtain ⟨v3, e4, h⟩ := gb h
  refine gw_getJ hx hb hT hown hK hI (ci := 3) rfl i_3 1 (by decide) wd_131 (fun _ h9 => h9) e4 d_Me_of_5 ?_
  refine lv_ladd hx hb d_Me_of_8 ?_
  refine lv_lstore_n (lv' := [(2, .long (v1 + v3)), (0, .ref a0), (1, .ref a1)]) hx hb d_Me_of_9 rfl hl (by decide) rfl (fun ls hl => ?_)
  refine lv_aload_n hx hb d_Me_of_10 rfl (lv_at hl 1 rfl) ?_
  obtain ⟨v5, e6, h⟩ := gb h
  refine gw_getJ hx hb hT hown hK hI (ci := 3) rfl i_3 2 (by decide) wd_133 (fun _ h9 => h9) e6 d_Me_of_11 ?_
  refine lv_aload_n hx hb d_Me_of_14 rfl (lv_at hl 2 rfl) ?_
  obtain ⟨v7, e8, h⟩ := gb h
  refine gw_getJ hx hb hT hown hK hI (ci := 3) rfl i_3 2 (by decide) wd_133 (fun _ h9 => h9) e8 d_Me_of_15 ?_
  refine lv_ladd hx hb d_Me_of_18 ?_
  refine lv_lstore (lv' := [(4, .long (v5 + v7)), (2, .long (v1 + v3)), (0, .ref a0), (1, .ref a1)]) hx hb d_Me_of_19 hl (by decide) rfl (fun ls hl => ?_)
  refine lv_aload_n hx hb d_Me_of_21 rfl (lv_at hl 2 rfl) ?_
  obtain ⟨v9, e10, h⟩ := gb h
  refine gw_getJ hx hb hT hown hK hI (ci := 3) rfl i_3 6 (by decide) wd_141 (fun _ h9 => h9) e10 d_Me_of_22 ?_
  refine lv_aload_n hx hb d_Me_of_25 rfl (lv_at hl 2 rfl) ?_
  obtain ⟨v11, e12, h⟩ := gb h
  refine gw_getJ hx hb hT hown hK hI (ci := 3) rfl i_3 9 (by decide) wd_147 (fun _ h9 => h9) e12 d_Me_of_26 ?_
  refine lv_aload_n hx hb d_Me_of_29 rfl (lv_at hl 3 rfl) ?_
  obtain ⟨v13, e14, h⟩ := gb h
  refine gw_getJ hx hb hT hown hK hI (ci := 3) rfl i_3 6 (by decide) wd_141 (fun _ h9 => h9) e14 d_Me_of_30 ?_
  refine lv_aload_n hx hb d_Me_of_33 rfl (lv_at hl 3 rfl) ?_
  obtain ⟨v15, e16, h⟩ := gb h
  refine gw_getJ hx hb hT hown hK hI (ci := 3) rfl i_3 9 (by decide) wd_147 (fun _ h9 => h9) e16 d_Me_of_34 ?_
  obtain ⟨u17, e18⟩ := gsome h
  refine gw_callJ e18 h (gw_runS (As := [.long v9, .long v11, .long v13, .long v15]) (rest := []) hx hb hml hown hT hK hZ hA hI (m_Me_gap l hst D g0 v9 v11 v13 v15 w u17 e18) ce_Me_gap wd_376 ⟨by decide, by decide⟩ rfl rfl hl.1 rfl (lv_room (Nat.le_of_ble_eq_true rfl)) d_Me_of_37 ⟨(show 0 + 0 ≤ 0 by omega), (show 0 + 0 ≤ 0 by omega)⟩) hI hA hexc (show 0 + 0 ≤ 0 by omega) (show 0 + 0 ≤ 0 by omega) (fun v19 w H locs h hI => ?_)
  refine lv_lstore (lv' := [(6, .long v19), (4, .long (v5 + v7)), (2, .long (v1 + v3)), (0, .ref a0), (1, .ref a1)]) hx hb d_Me_of_40 hl (by decide) rfl (fun ls hl => ?_)
  refine lv_aload_n hx hb d_Me_of_42 rfl (lv_at hl 3 rfl) ?_
  obtain ⟨v20, e21, h⟩ := gb h
  refine gw_getJ hx hb hT hown hK hI (ci := 3) rfl i_3 7 (by decide) wd_143 (fun _ h9 => h9) e21 d_Me_of_43 ?_
  refine lv_aload_n hx hb d_Me_of_46 rfl (lv_at hl 3 rfl) ?_
  obtain ⟨v22, e23, h⟩ := gb h
  refine gw_getJ hx hb hT hown hK hI (ci := 3) rfl i_3 10 (by decide) wd_149 (fun _ h9 => h9) e23 d_Me_of_47 ?_
  refine lv_aload_n hx hb d_Me_of_50 rfl (lv_at hl 4 rfl) ?_
  obtain ⟨v24, e25, h⟩ := gb h
  refine gw_getJ hx hb hT hown hK hI (ci := 3) rfl i_3 7 (by decide) wd_143 (fun _ h9 => h9) e25 d_Me_of_51 ?_
  refine lv_aload_n hx hb d_Me_of_54 rfl (lv_at hl 4 rfl) ?_
  obtain ⟨v26, e27, h⟩ := gb h
  refine gw_getJ hx hb hT hown hK hI (ci := 3) rfl i_3 10 (by decide) wd_149 (fun _ h9 => h9) e27 d_Me_of_55 ?_
  obtain ⟨u28, e29⟩ := gsome h
  refine gw_callJ e29 h (gw_runS (As := [.long v20, .long v22, .long v24, .long v26]) (rest := []) hx hb hml hown hT hK hZ hA hI (m_Me_gap l hst D g0 v20 v22 v24 v26 w u28 e29) ce_Me_gap wd_376 ⟨by decide, by decide⟩ rfl rfl hl.1 rfl (lv_room (Nat.le_of_ble_eq_true rfl)) d_Me_of_58 ⟨(show 0 + 0 ≤ 0 by omega), (show 0 + 0 ≤ 0 by omega)⟩) hI hA hexc (show 0 + 0 ≤ 0 by omega) (show 0 + 0 ≤ 0 by omega) (fun v30 w H locs h hI => ?_)
  refine lv_lstore (lv' := [(8, .long v30), (6, .long v19), (4, .long (v5 + v7)), (2, .long (v1 + v3)), (0, .ref a0), (1, .ref a1)]) hx hb d_Me_of_61 hl (by decide) rfl (fun ls hl => ?_)
  refine lv_aload_n hx hb d_Me_of_63 rfl (lv_at hl 4 rfl) ?_
  obtain ⟨v31, e32, h⟩ := gb h
  refine gw_getJ hx hb hT hown hK hI (ci := 3) rfl i_3 8 (by decide) wd_145 (fun _ h9 => h9) e32 d_Me_of_64 ?_
  refine lv_aload_n hx hb d_Me_of_67 rfl (lv_at hl 4 rfl) ?_
  obtain ⟨v33, e34, h⟩ := gb h
  refine gw_getJ hx hb hT hown hK hI (ci := 3) rfl i_3 11 (by decide) wd_151 (fun _ h9 => h9) e34 d_Me_of_68 ?_
  refine lv_aload_n hx hb d_Me_of_71 rfl (lv_at hl 5 rfl) ?_
  obtain ⟨v35, e36, h⟩ := gb h
  refine gw_getJ hx hb hT hown hK hI (ci := 3) rfl i_3 8 (by decide) wd_145 (fun _ h9 => h9) e36 d_Me_of_72 ?_
  refine lv_aload_n hx hb d_Me_of_75 rfl (lv_at hl 5 rfl) ?_
  obtain ⟨v37, e38, h⟩ := gb h
  refine gw_getJ hx hb hT hown hK hI (ci := 3) rfl i_3 11 (by decide) wd_151 (fun _ h9 => h9) e38 d_Me_of_76 ?_
  obtain ⟨u39, e40⟩ := gsome h
  refine gw_callJ e40 h (gw_runS (As := [.long v31, .long v33, .long v35, .long v37]) (rest := []) hx hb hml hown hT hK hZ hA hI (m_Me_gap l hst D g0 v31 v33 v35 v37 w u39 e40) ce_Me_gap wd_376 ⟨by decide, by decide⟩ rfl rfl hl.1 rfl (lv_room (Nat.le_of_ble_eq_true rfl)) d_Me_of_79 ⟨(show 0 + 0 ≤ 0 by omega), (show 0 + 0 ≤ 0 by omega)⟩) hI hA hexc (show 0 + 0 ≤ 0 by omega) (show 0 + 0 ≤ 0 by omega) (fun v41 w H locs h hI => ?_)
  refine lv_lstore (lv' := [(10, .long v41), (8, .long v30), (6, .long v19), (4, .long (v5 + v7)), (2, .long (v1 + v3)), (0, .ref a0), (1, .ref a1)]) hx hb d_Me_of_82 hl (by decide) rfl (fun ls hl => ?_)
  refine lv_lload hx hb d_Me_of_84 (lv_at hl 2 rfl) ?_
  refine lv_lload_n hx hb d_Me_of_86 rfl (lv_at hl 4 rfl) ?_
  refine lv_lload hx hb d_Me_of_87 (lv_at hl 3 rfl) ?_
  refine lv_ladd hx hb d_Me_of_89 ?_
  refine W.lcmp hx hb d_Me_of_90 ?_
  obtain ⟨K112, eK112, h⟩ := gj h
  have hK112 : ∀ (w : gW) (H : Heap) (locs : List Loc) (ls : Array Slot), K112 w = some r → gI D s A w H locs → lv_has ls 14 [] → W p l e rm_Me_of s m args below meth c H locs 0 0 Q (F0 m 112 ls []) := by
    intro w H locs ls h hI hl
    have h := gk1 eK112 h
    refine lv_iconst (v := 1) hx hb d_Me_of_112 (by decide) ?_
    exact W.widen (show 0 ≤ 0 by omega) (show 0 ≤ 0 by omega) (hret _ _ (Option.some.inj h).symm _ _ _ _ d_Me_of_113 hI)
  refine lv_if_gt (tgt := 112) hx hb d_Me_of_91 (by decide) (fun c42 => ?_) (fun c42 => ?_)
  · have c42 := (lg_cmp_gt _ _).mp c42
    have h := git c42 h
    exact hK112 w H locs ls h hI (lv_sub hl [] rfl)
  · have c42 := mt (lg_cmp_gt _ _).mpr c42
    have h := gie c42 h
    refine lv_lload hx hb d_Me_of_94 (lv_at hl 1 rfl) ?_
    refine lv_lload_n hx hb d_Me_of_96 rfl (lv_at hl 4 rfl) ?_
    refine lv_lload hx hb d_Me_of_97 (lv_at hl 3 rfl) ?_
    refine lv_ladd hx hb d_Me_of_99 ?_
    refine W.lcmp hx hb d_Me_of_100 ?_
    refine lv_if_gt (tgt := 112) hx hb d_Me_of_101 (by decide) (fun c43 => ?_) (fun c43 => ?_)
    · have c43 := (lg_cmp_gt _ _).mp c43
      have h := git c43 h
      exact hK112 w H locs ls h hI (lv_sub hl [] rfl)
    · have c43 := mt (lg_cmp_gt _ _).mpr c43
      have h := gie c43 h
      refine lv_lload hx hb d_Me_of_104 (lv_at hl 0 rfl) ?_
      refine lv_lload hx hb d_Me_of_106 (lv_at hl 3 rfl) ?_
      refine W.lcmp hx hb d_Me_of_108 ?_
      refine lv_if_le (tgt := 114) hx hb d_Me_of_109 (by decide) (fun c44 => ?_) (fun c44 => ?_)
      · have c44 := (lg_cmp_le _ _).mp c44
        have h := git c44 h
        refine lv_lload hx hb d_Me_of_114 (lv_at hl 3 rfl) ?_
        refine lv_lconst (v := 0) hx hb d_Me_of_116 (by decide) ?_
        refine W.lcmp hx hb d_Me_of_117 ?_
        refine lv_if_ne (tgt := 156) hx hb d_Me_of_118 (by decide) (fun c45 => ?_) (fun c45 => ?_)
        · have c45 := mt (lg_cmp_eq _ _).mpr c45
          have h := gie c45 h
          refine lv_lload hx hb d_Me_of_156 (lv_at hl 3 rfl) ?_
          refine lv_lload hx hb d_Me_of_158 (lv_at hl 3 rfl) ?_
          refine lv_lmul hx hb d_Me_of_160 ?_
          refine lv_lload hx hb d_Me_of_161 (lv_at hl 0 rfl) ?_
          obtain ⟨u46, e47⟩ := gsome h
          refine gw_callJ e47 h (gw_runS (As := [.long v41]) (rest := [.long ((v5 + v7) * (v5 + v7))]) hx hb hml hown hT hK hZ hA hI (m_Me_squareIfAbove l hst D g0 v41 w u46 e47) ce_Me_squareIfAbove wd_397 ⟨by decide, by decide⟩ rfl rfl hl.1 rfl (lv_room (Nat.le_of_ble_eq_true rfl)) d_Me_of_163 ⟨(show 0 + 0 ≤ 0 by omega), (show 0 + 0 ≤ 0 by omega)⟩) hI hA hexc (show 0 + 0 ≤ 0 by omega) (show 0 + 0 ≤ 0 by omega) (fun v48 w H locs h hI => ?_)
          refine lv_lsub hx hb d_Me_of_166 ?_
          refine lv_lstore (lv' := [(12, .long (((v5 + v7) * (v5 + v7)) - v48)), (10, .long v41), (8, .long v30), (6, .long v19), (4, .long (v5 + v7)), (2, .long (v1 + v3)), (0, .ref a0), (1, .ref a1)]) hx hb d_Me_of_167 hl (by decide) rfl (fun ls hl => ?_)
          refine lv_lload_n hx hb d_Me_of_169 rfl (lv_at hl 5 rfl) ?_
          refine lv_lconst (v := 0) hx hb d_Me_of_170 (by decide) ?_
          refine W.lcmp hx hb d_Me_of_171 ?_
          refine lv_if_ne (tgt := 183) hx hb d_Me_of_172 (by decide) (fun c49 => ?_) (fun c49 => ?_)
          · have c49 := mt (lg_cmp_eq _ _).mpr c49
            have h := gie c49 h
            refine lv_lload hx hb d_Me_of_183 (lv_at hl 3 rfl) ?_
            obtain ⟨u50, e51⟩ := gsome h
            refine gw_callJ e51 h (gw_runS (As := [.long v19]) (rest := []) hx hb hml hown hT hK hZ hA hI (m_Me_squareIfAbove l hst D g0 v19 w u50 e51) ce_Me_squareIfAbove wd_397 ⟨by decide, by decide⟩ rfl rfl hl.1 rfl (lv_room (Nat.le_of_ble_eq_true rfl)) d_Me_of_185 ⟨(show 0 + 0 ≤ 0 by omega), (show 0 + 0 ≤ 0 by omega)⟩) hI hA hexc (show 0 + 0 ≤ 0 by omega) (show 0 + 0 ≤ 0 by omega) (fun v52 w H locs h hI => ?_)
            refine lv_lload hx hb d_Me_of_188 (lv_at hl 2 rfl) ?_
            obtain ⟨u53, e54⟩ := gsome h
            refine gw_callJ e54 h (gw_runS (As := [.long v30]) (rest := [.long v52]) hx hb hml hown hT hK hZ hA hI (m_Me_squareIfAbove l hst D g0 v30 w u53 e54) ce_Me_squareIfAbove wd_397 ⟨by decide, by decide⟩ rfl rfl hl.1 rfl (lv_room (Nat.le_of_ble_eq_true rfl)) d_Me_of_190 ⟨(show 0 + 0 ≤ 0 by omega), (show 0 + 0 ≤ 0 by omega)⟩) hI hA hexc (show 0 + 0 ≤ 0 by omega) (show 0 + 0 ≤ 0 by omega) (fun v55 w H locs h hI => ?_)
            refine lv_ladd hx hb d_Me_of_193 ?_
            refine lv_lload_n hx hb d_Me_of_194 rfl (lv_at hl 5 rfl) ?_
            refine lv_lload hx hb d_Me_of_195 (lv_at hl 0 rfl) ?_
            obtain ⟨u56, e57⟩ := gsome h
            refine gw_callI e57 h (gw_runS (As := [.long (v52 + v55), .long (v1 + v3), .long (((v5 + v7) * (v5 + v7)) - v48)]) (rest := []) hx hb hml hown hT hK hZ hA hI (m_Me_discAndRound l hst D g0 (v52 + v55) (v1 + v3) (((v5 + v7) * (v5 + v7)) - v48) w u56 e57) ce_Me_discAndRound wd_406 ⟨by decide, by decide⟩ rfl rfl hl.1 rfl (lv_room (Nat.le_of_ble_eq_true rfl)) d_Me_of_197 ⟨(show 0 + 0 ≤ 0 by omega), (show 0 + 0 ≤ 0 by omega)⟩) hI hA hexc (show 0 + 0 ≤ 0 by omega) (show 0 + 0 ≤ 0 by omega) (fun v58 w H locs h hI => ?_)
            exact W.widen (show 0 ≤ 0 by omega) (show 0 ≤ 0 by omega) (hret _ _ (Option.some.inj h).symm _ _ _ _ d_Me_of_200 hI)
          · have c49 := (lg_cmp_eq _ _).mp c49
            have h := git c49 h
            refine lv_aload_n hx hb d_Me_of_175 rfl (lv_at hl 6 rfl) ?_
            refine lv_aload_n hx hb d_Me_of_176 rfl (lv_at hl 7 rfl) ?_
            refine lv_lload hx hb d_Me_of_177 (lv_at hl 0 rfl) ?_
            obtain ⟨u59, e60⟩ := gsome h
            refine gw_callI e60 h (gw_runS (As := [.ref a0, .ref a1, .long (((v5 + v7) * (v5 + v7)) - v48)]) (rest := []) hx hb hml hown hT hK hZ hA hI (m_Me_distance l hst D g0 a0 a1 (((v5 + v7) * (v5 + v7)) - v48) w u59 e60) ce_Me_distance wd_391 ⟨by decide, by decide⟩ rfl rfl hl.1 rfl (lv_room (Nat.le_of_ble_eq_true rfl)) d_Me_of_179 ⟨(show 0 + 0 ≤ 0 by omega), (show 0 + 0 ≤ 0 by omega)⟩) hI hA hexc (show 0 + 0 ≤ 0 by omega) (show 0 + 0 ≤ 0 by omega) (fun v61 w H locs h hI => ?_)
            exact W.widen (show 0 ≤ 0 by omega) (show 0 ≤ 0 by omega) (hret _ _ (Option.some.inj h).symm _ _ _ _ d_Me_of_182 hI)
        · have c45 := (lg_cmp_eq _ _).mp c45
          have h := git c45 h
          refine lv_lload_n hx hb d_Me_of_121 rfl (lv_at hl 4 rfl) ?_
          refine lv_lconst (v := 0) hx hb d_Me_of_122 (by decide) ?_
          refine W.lcmp hx hb d_Me_of_123 ?_
          obtain ⟨K143, eK143, h⟩ := gj h
          have hK143 : ∀ (y62 : Int32) (w : gW) (H : Heap) (locs : List Loc) (ls : Array Slot), K143 y62 w = some r → gI D s A w H locs → lv_has ls 14 [(10, .long v41)] → W p l e rm_Me_of s m args below meth c H locs 0 0 Q (F0 m 143 ls [.int y62]) := by
            intro y62 w H locs ls h hI hl
            have h := gk2 eK143 h
            refine lv_istore (lv' := [(12, .int y62), (10, .long v41)]) hx hb d_Me_of_143 hl (by decide) rfl (fun ls hl => ?_)
            refine lv_iload hx hb d_Me_of_145 (lv_at hl 0 rfl) ?_
            refine lv_lload hx hb d_Me_of_147 (lv_at hl 1 rfl) ?_
            obtain ⟨u63, e64⟩ := gsome h
            refine gw_callI e64 h (gw_runS (As := [.long v41]) (rest := [.int y62]) hx hb hml hown hT hK hZ hA hI (m_Me_sign l hst D g0 v41 w u63 e64) ce_Me_sign wd_383 ⟨by decide, by decide⟩ rfl rfl hl.1 rfl (lv_room (Nat.le_of_ble_eq_true rfl)) d_Me_of_149 ⟨(show 0 + 0 ≤ 0 by omega), (show 0 + 0 ≤ 0 by omega)⟩) hI hA hexc (show 0 + 0 ≤ 0 by omega) (show 0 + 0 ≤ 0 by omega) (fun v65 w H locs h hI => ?_)
            obtain ⟨u66, e67⟩ := gsome h
            refine gw_callI e67 h (gw_runS (As := [.int y62, .int v65]) (rest := []) hx hb hml hown hT hK hZ hA hI (m_Ma_max l hst D g0 y62 v65 w u66 e67) ce_Ma_max wd_390 ⟨by decide, by decide⟩ rfl rfl hl.1 rfl (lv_room (Nat.le_of_ble_eq_true rfl)) d_Me_of_152 ⟨(show 0 + 0 ≤ 0 by omega), (show 0 + 0 ≤ 0 by omega)⟩) hI hA hexc (show 0 + 0 ≤ 0 by omega) (show 0 + 0 ≤ 0 by omega) (fun v68 w H locs h hI => ?_)
            exact W.widen (show 0 ≤ 0 by omega) (show 0 ≤ 0 by omega) (hret _ _ (Option.some.inj h).symm _ _ _ _ d_Me_of_155 hI)
          refine lv_if_ne (tgt := 135) hx hb d_Me_of_124 (by decide) (fun c69 => ?_) (fun c69 => ?_)
          · have c69 := mt (lg_cmp_eq _ _).mpr c69
            have h := gie c69 h
            refine lv_aload_n hx hb d_Me_of_135 rfl (lv_at hl 5 rfl) ?_
            refine lv_aload_n hx hb d_Me_of_136 rfl (lv_at hl 6 rfl) ?_
            refine lv_lload_n hx hb d_Me_of_137 rfl (lv_at hl 4 rfl) ?_
            refine lv_lload_n hx hb d_Me_of_138 rfl (lv_at hl 4 rfl) ?_
            refine lv_lmul hx hb d_Me_of_139 ?_
            obtain ⟨u70, e71⟩ := gsome h
            refine gw_callI e71 h (gw_runS (As := [.ref a0, .ref a1, .long ((v1 + v3) * (v1 + v3))]) (rest := []) hx hb hml hown hT hK hZ hA hI (m_Me_distance l hst D g0 a0 a1 ((v1 + v3) * (v1 + v3)) w u70 e71) ce_Me_distance wd_391 ⟨by decide, by decide⟩ rfl rfl hl.1 rfl (lv_room (Nat.le_of_ble_eq_true rfl)) d_Me_of_140 ⟨(show 0 + 0 ≤ 0 by omega), (show 0 + 0 ≤ 0 by omega)⟩) hI hA hexc (show 0 + 0 ≤ 0 by omega) (show 0 + 0 ≤ 0 by omega) (fun v72 w H locs h hI => ?_)
            exact hK143 _ w H locs ls h hI (lv_sub hl [0] rfl)
          · have c69 := (lg_cmp_eq _ _).mp c69
            have h := git c69 h
            refine lv_aload_n hx hb d_Me_of_127 rfl (lv_at hl 5 rfl) ?_
            refine lv_aload_n hx hb d_Me_of_128 rfl (lv_at hl 6 rfl) ?_
            obtain ⟨u73, e74⟩ := gsome h
            refine gw_callI e74 h (gw_runS (As := [.ref a0, .ref a1]) (rest := []) hx hb hml hown hT hK hZ hA hI (m_Me_outlines l hst D g0 a0 a1 w u73 e74) ce_Me_outlines wd_380 ⟨by decide, by decide⟩ rfl rfl hl.1 rfl (lv_room (Nat.le_of_ble_eq_true rfl)) d_Me_of_129 ⟨(show 0 + 0 ≤ 0 by omega), (show 0 + 0 ≤ 0 by omega)⟩) hI hA hexc (show 0 + 0 ≤ 0 by omega) (show 0 + 0 ≤ 0 by omega) (fun v75 w H locs h hI => ?_)
            refine lv_goto (tgt := 143) hx hb d_Me_of_132 (by decide) ?_
            exact hK143 _ w H locs ls h hI (lv_sub hl [0] rfl)
      · have c44 := mt (lg_cmp_le _ _).mpr c44
        have h := gie c44 h
        exact hK112 w H locs ls h hI (lv_sub hl [] rfl)

abbrev b_La_reachesInto : ByteArray := prog_4_method_3_code
def y_La_reachesInto : MethodName := ⟨"BodySolids$Layout", "reachesInto", "(LBodySolids$Solid;)Z"⟩
theorem d_La_reachesInto_0 : decode b_La_reachesInto 0 = .ok (.iconst 0, 1) := by decide +kernel
theorem d_La_reachesInto_1 : decode b_La_reachesInto 1 = .ok (.istore_n 2, 1) := by decide +kernel
theorem d_La_reachesInto_2 : decode b_La_reachesInto 2 = .ok (.iload_n 2, 1) := by decide +kernel
theorem d_La_reachesInto_3 : decode b_La_reachesInto 3 = .ok (.aload_n 0, 1) := by decide +kernel
theorem d_La_reachesInto_4 : decode b_La_reachesInto 4 = .ok (.getfield 17, 3) := by decide +kernel
theorem d_La_reachesInto_7 : decode b_La_reachesInto 7 = .ok (.if_icmp .ge 25, 3) := by decide +kernel
theorem d_La_reachesInto_10 : decode b_La_reachesInto 10 = .ok (.aload_n 0, 1) := by decide +kernel
theorem d_La_reachesInto_11 : decode b_La_reachesInto 11 = .ok (.getfield 11, 3) := by decide +kernel
theorem d_La_reachesInto_14 : decode b_La_reachesInto 14 = .ok (.iload_n 2, 1) := by decide +kernel
theorem d_La_reachesInto_15 : decode b_La_reachesInto 15 = .ok (.aaload, 1) := by decide +kernel
theorem d_La_reachesInto_16 : decode b_La_reachesInto 16 = .ok (.aload_n 1, 1) := by decide +kernel
theorem d_La_reachesInto_17 : decode b_La_reachesInto 17 = .ok (.invokestatic 53, 3) := by decide +kernel
theorem d_La_reachesInto_20 : decode b_La_reachesInto 20 = .ok (.iconst (-1), 1) := by decide +kernel
theorem d_La_reachesInto_21 : decode b_La_reachesInto 21 = .ok (.if_icmp .ne 5, 3) := by decide +kernel
theorem d_La_reachesInto_24 : decode b_La_reachesInto 24 = .ok (.iconst 1, 1) := by decide +kernel
theorem d_La_reachesInto_25 : decode b_La_reachesInto 25 = .ok (.ireturn, 1) := by decide +kernel
theorem d_La_reachesInto_26 : decode b_La_reachesInto 26 = .ok (.iinc 2 1, 3) := by decide +kernel
theorem d_La_reachesInto_29 : decode b_La_reachesInto 29 = .ok (.goto (-27), 3) := by decide +kernel
theorem d_La_reachesInto_32 : decode b_La_reachesInto 32 = .ok (.iconst 0, 1) := by decide +kernel
theorem d_La_reachesInto_33 : decode b_La_reachesInto 33 = .ok (.ireturn, 1) := by decide +kernel
abbrev rm_La_reachesInto : Room := { frames := 5, cells := 0, slots := 0, locals := 147 }
theorem ce_La_reachesInto : gCe y_La_reachesInto (.code y_La_reachesInto b_La_reachesInto 3 (some .boolean)) 3 1 false := gCe.code wd_422 wd_55 wd_420 (by decide) (by decide +kernel)
def f_La_reachesInto_L2 (g0 : gG) (c0 : Nat) (c1 : Nat) (K32 : gW → gX Int32) (K24 : gW → gX Int32) : Nat → Int32 → gW → gX Int32
  | 0, _, _ => none
  | n + 1, z2, w => (gfI w c0 2 1).bind fun v3 => if v3 ≤ z2 then (K32 w) else ((gfA w c0 2 0).bind fun v6 => (gaA w v6 z2).bind fun v8 => gbind (f_Me_of g0 v8 c1 w) fun v12 w => if v12 = (-1) then (K24 w) else (f_La_reachesInto_L2 g0 c0 c1 K32 K24 n (z2 + 1) w))
def f_La_reachesInto (g0 : gG) (a0 : Nat) (a1 : Nat) (w : gW) : gX Int32 := gjoin (fun K32 => gjoin (fun K24 => f_La_reachesInto_L2 g0 a0 a1 K32 K24 64 0 w) (fun (w : gW) => gguard ((1 : Int32) = 0 ∨ (1 : Int32) = 1) (some (.inr 1, w)))) (fun (w : gW) => gguard ((0 : Int32) = 0 ∨ (0 : Int32) = 1) (some (.inr 0, w)))
set_option maxHeartbeats 4000000 in
set_option maxRecDepth 100000 in
theorem m_La_reachesInto (l : Launch) (hst : l.stackTraces = false) (D : gD) (g0 : gG) (a0 : Nat) (a1 : Nat) (w : gW) (r : (String ⊕ Int32) × gW) (h : f_La_reachesInto g0 a0 a1 w = some r) : gMet l y_La_reachesInto (.code y_La_reachesInto b_La_reachesInto 3 (some .boolean)) rm_La_reachesInto D g0 [.ref a0, .ref a1] w (goI r) := by
  refine gw_ofZ (by decide +kernel) (Nat.le_of_ble_eq_true rfl) ?_
  intro p e s m below meth c ls args A Q hx hb hml hown hlocks hin hnt hT hK hZ hA hret hexc hthr hI hl
  obtain ⟨H, hH⟩ : ∃ H, H = s.heap := ⟨_, rfl⟩
  rw [← hH] at hI ⊢
  obtain ⟨locs, hlocs⟩ : ∃ z : List Loc, z = [] := ⟨_, rfl⟩
  rw [← hlocs] at hI ⊢
  have hl : lv_has ls 3 [(0, .ref a0), (1, .ref a1)] := hl
  unfold f_La_reachesInto at h
  refine lv_iconst (v := 0) hx hb d_La_reachesInto_0 (by decide) ?_
  refine lv_istore_n (lv' := [(2, .int 0), (0, .ref a0), (1, .ref a1)]) hx hb d_La_reachesInto_1 rfl hl (by decide) rfl (fun ls hl => ?_)
  obtain ⟨K32, eK32, h⟩ := gj h
  have hK32 : ∀ (w : gW) (H : Heap) (locs : List Loc) (ls : Array Slot), K32 w = some r → gI D s A w H locs → lv_has ls 3 [] → W p l e rm_La_reachesInto s m args below meth c H locs 0 0 Q (F0 m 32 ls []) := by
    intro w H locs ls h hI hl
    have h := gk1 eK32 h
    refine lv_iconst (v := 0) hx hb d_La_reachesInto_32 (by decide) ?_
    obtain ⟨g1, h⟩ := gif h
    exact W.widen (show 0 ≤ 0 by omega) (show 0 ≤ 0 by omega) (hret g1 0 _ (Option.some.inj h).symm _ _ _ _ d_La_reachesInto_33 hI)
  obtain ⟨K24, eK24, h⟩ := gj h
  have hK24 : ∀ (w : gW) (H : Heap) (locs : List Loc) (ls : Array Slot), K24 w = some r → gI D s A w H locs → lv_has ls 3 [] → W p l e rm_La_reachesInto s m args below meth c H locs 0 0 Q (F0 m 24 ls []) := by
    intro w H locs ls h hI hl
    have h := gk1 eK24 h
    refine lv_iconst (v := 1) hx hb d_La_reachesInto_24 (by decide) ?_
    obtain ⟨g2, h⟩ := gif h
    exact W.widen (show 0 ≤ 0 by omega) (show 0 ≤ 0 by omega) (hret g2 0 _ (Option.some.inj h).symm _ _ _ _ d_La_reachesInto_25 hI)
  have hL2 : ∀ (n : Nat), ∀ (z3 : Int32) (w : gW) (H : Heap) (locs : List Loc) (ls : Array Slot), f_La_reachesInto_L2 g0 a0 a1 K32 K24 n z3 w = some r → gI D s A w H locs → lv_has ls 3 [(0, .ref a0), (1, .ref a1), (2, .int z3)] → W p l e rm_La_reachesInto s m args below meth c H locs 0 0 Q (F0 m 2 ls []) := by
    intro n
    induction n with
    | zero => intro z3 w H locs ls h hI hl; exact absurd h (by simp [f_La_reachesInto_L2])
    | succ n ih =>
      intro z3 w H locs ls h hI hl
      rw [f_La_reachesInto_L2] at h
      refine lv_iload_n hx hb d_La_reachesInto_2 rfl (lv_at hl 2 rfl) ?_
      refine lv_aload_n hx hb d_La_reachesInto_3 rfl (lv_at hl 0 rfl) ?_
      obtain ⟨v4, e5, h⟩ := gb h
      refine gw_getI hx hb hT hown hK hI (ci := 2) rfl i_2 1 (by decide) wd_182 (fun _ h9 => h9) e5 d_La_reachesInto_4 ?_
      refine lv_icmp_ge (tgt := 32) hx hb d_La_reachesInto_7 (by decide) (fun c6 => ?_) (fun c6 => ?_)
      · skip
        have h := git c6 h
        exact hK32 w H locs ls h hI (lv_sub hl [] rfl)
      · skip
        have h := gie c6 h
        refine lv_aload_n hx hb d_La_reachesInto_10 rfl (lv_at hl 0 rfl) ?_
        obtain ⟨v7, e8, h⟩ := gb h
        refine gw_getA hx hb hT hown hK hI (ci := 2) rfl i_2 0 (by decide) wd_180 (fun _ h9 => h9) e8 d_La_reachesInto_11 ?_
        refine lv_iload_n hx hb d_La_reachesInto_14 rfl (lv_at hl 2 rfl) ?_
        obtain ⟨v9, e10, h⟩ := gb h
        refine gw_aldA hx hb hK hI e10 d_La_reachesInto_15 ?_
        refine lv_aload_n hx hb d_La_reachesInto_16 rfl (lv_at hl 1 rfl) ?_
        obtain ⟨u11, e12⟩ := gsome h
        refine gw_callI e12 h (gw_runS (As := [.ref v9, .ref a1]) (rest := []) hx hb hml hown hT hK hZ hA hI (m_Me_of l hst D g0 v9 a1 w u11 e12) ce_Me_of wd_423 ⟨by decide, by decide⟩ rfl rfl hl.1 rfl (lv_room (Nat.le_of_ble_eq_true rfl)) d_La_reachesInto_17 ⟨(show 0 + 0 ≤ 0 by omega), (show 0 + 0 ≤ 0 by omega)⟩) hI hA hexc (show 0 + 0 ≤ 0 by omega) (show 0 + 0 ≤ 0 by omega) (fun v13 w H locs h hI => ?_)
        refine lv_iconst (v := -1) hx hb d_La_reachesInto_20 (by decide) ?_
        refine lv_icmp_ne (tgt := 26) hx hb d_La_reachesInto_21 (by decide) (fun c14 => ?_) (fun c14 => ?_)
        · skip
          have h := gie c14 h
          refine lv_iinc (v := z3 + 1) (lv' := [(2, .int (z3 + 1)), (0, .ref a0), (1, .ref a1)]) hx hb d_La_reachesInto_26 hl (k := 2) rfl rfl (by decide) rfl (fun ls hl => ?_)
          refine lv_goto (tgt := 2) hx hb d_La_reachesInto_29 (by decide) ?_
          exact ih _ w H locs ls h hI (lv_sub hl [1, 2, 0] rfl)
        · skip
          have h := git c14 h
          exact hK24 w H locs ls h hI (lv_sub hl [] rfl)
  exact hL2 64 _ w H locs ls h hI (lv_sub hl [1, 2, 0] rfl)

abbrev b_B_breaksSome : ByteArray := prog_1_method_37_code
def y_B_breaksSome : MethodName := ⟨"BodySolids", "breaksSome", "(LBodySolids$Placement;)Z"⟩
theorem d_B_breaksSome_0 : decode b_B_breaksSome 0 = .ok (.aload_n 0, 1) := by decide +kernel
theorem d_B_breaksSome_1 : decode b_B_breaksSome 1 = .ok (.getfield 61, 3) := by decide +kernel
theorem d_B_breaksSome_4 : decode b_B_breaksSome 4 = .ok (.aload_n 1, 1) := by decide +kernel
theorem d_B_breaksSome_5 : decode b_B_breaksSome 5 = .ok (.aload_n 0, 1) := by decide +kernel
theorem d_B_breaksSome_6 : decode b_B_breaksSome 6 = .ok (.getfield 20, 3) := by decide +kernel
theorem d_B_breaksSome_9 : decode b_B_breaksSome 9 = .ok (.invokevirtual 213, 3) := by decide +kernel
theorem d_B_breaksSome_12 : decode b_B_breaksSome 12 = .ok (.iconst 0, 1) := by decide +kernel
theorem d_B_breaksSome_13 : decode b_B_breaksSome 13 = .ok (.istore_n 2, 1) := by decide +kernel
theorem d_B_breaksSome_14 : decode b_B_breaksSome 14 = .ok (.iload_n 2, 1) := by decide +kernel
theorem d_B_breaksSome_15 : decode b_B_breaksSome 15 = .ok (.aload_n 0, 1) := by decide +kernel
theorem d_B_breaksSome_16 : decode b_B_breaksSome 16 = .ok (.getfield 34, 3) := by decide +kernel
theorem d_B_breaksSome_19 : decode b_B_breaksSome 19 = .ok (.invokevirtual 68, 3) := by decide +kernel
theorem d_B_breaksSome_22 : decode b_B_breaksSome 22 = .ok (.if_icmp .ge 48, 3) := by decide +kernel
theorem d_B_breaksSome_25 : decode b_B_breaksSome 25 = .ok (.aload_n 0, 1) := by decide +kernel
theorem d_B_breaksSome_26 : decode b_B_breaksSome 26 = .ok (.getfield 34, 3) := by decide +kernel
theorem d_B_breaksSome_29 : decode b_B_breaksSome 29 = .ok (.iload_n 2, 1) := by decide +kernel
theorem d_B_breaksSome_30 : decode b_B_breaksSome 30 = .ok (.invokevirtual 205, 3) := by decide +kernel
theorem d_B_breaksSome_33 : decode b_B_breaksSome 33 = .ok (.checkcast 200, 3) := by decide +kernel
theorem d_B_breaksSome_36 : decode b_B_breaksSome 36 = .ok (.astore_n 3, 1) := by decide +kernel
theorem d_B_breaksSome_37 : decode b_B_breaksSome 37 = .ok (.aload_n 3, 1) := by decide +kernel
theorem d_B_breaksSome_38 : decode b_B_breaksSome 38 = .ok (.getfield 288, 3) := by decide +kernel
theorem d_B_breaksSome_41 : decode b_B_breaksSome 41 = .ok (.aload_n 1, 1) := by decide +kernel
theorem d_B_breaksSome_42 : decode b_B_breaksSome 42 = .ok (.getfield 291, 3) := by decide +kernel
theorem d_B_breaksSome_45 : decode b_B_breaksSome 45 = .ok (.if_icmp .ne 19, 3) := by decide +kernel
theorem d_B_breaksSome_48 : decode b_B_breaksSome 48 = .ok (.aload_n 0, 1) := by decide +kernel
theorem d_B_breaksSome_49 : decode b_B_breaksSome 49 = .ok (.getfield 61, 3) := by decide +kernel
theorem d_B_breaksSome_52 : decode b_B_breaksSome 52 = .ok (.aload_n 3, 1) := by decide +kernel
theorem d_B_breaksSome_53 : decode b_B_breaksSome 53 = .ok (.getfield 292, 3) := by decide +kernel
theorem d_B_breaksSome_56 : decode b_B_breaksSome 56 = .ok (.invokevirtual 296, 3) := by decide +kernel
theorem d_B_breaksSome_59 : decode b_B_breaksSome 59 = .ok (.ifCond .eq 5, 3) := by decide +kernel
theorem d_B_breaksSome_62 : decode b_B_breaksSome 62 = .ok (.iconst 1, 1) := by decide +kernel
theorem d_B_breaksSome_63 : decode b_B_breaksSome 63 = .ok (.ireturn, 1) := by decide +kernel
theorem d_B_breaksSome_64 : decode b_B_breaksSome 64 = .ok (.iinc 2 1, 3) := by decide +kernel
theorem d_B_breaksSome_67 : decode b_B_breaksSome 67 = .ok (.goto (-53), 3) := by decide +kernel
theorem d_B_breaksSome_70 : decode b_B_breaksSome 70 = .ok (.iconst 0, 1) := by decide +kernel
theorem d_B_breaksSome_71 : decode b_B_breaksSome 71 = .ok (.ireturn, 1) := by decide +kernel
abbrev rm_B_breaksSome : Room := { frames := 6, cells := 0, slots := 0, locals := 169 }
theorem ce_B_breaksSome : gCe y_B_breaksSome (.code y_B_breaksSome b_B_breaksSome 4 (some .boolean)) 4 1 false := gCe.code wd_417 wd_49 wd_416 (by decide) (by decide +kernel)
def f_B_breaksSome_L14 (g0 : gG) (c0 : Nat) (c1 : Nat) (K70 : gW → gX Int32) (K62 : gW → gX Int32) : Nat → Int32 → gW → gX Int32
  | 0, _, _ => none
  | n + 1, z2, w => (gfA w c0 0 3).bind fun v12 => (gck w v12 1).bind fun _ => gbind (f_AL_size g0 v12 w) fun v18 w => if v18 ≤ z2 then (K70 w) else ((gfA w c0 0 3).bind fun v20 => (gck w v20 1).bind fun _ => gbind (f_AL_get g0 v20 z2 w) fun v26 w => (gck w v26 6).bind fun _ => (gfI w v26 6 1).bind fun v29 => (gfI w c1 5 4).bind fun v31 => gjoin (fun K64 => if v29 = v31 then ((gfA w c0 0 8).bind fun v34 => (gfA w v26 6 0).bind fun v36 => (gck w v34 2).bind fun _ => gbind (f_La_reachesInto g0 v34 v36 w) fun v42 w => if v42 = 0 then (K64 w) else (K62 w)) else (K64 w)) (fun (w : gW) => f_B_breaksSome_L14 g0 c0 c1 K70 K62 n (z2 + 1) w))
def f_B_breaksSome (g0 : gG) (a0 : Nat) (a1 : Nat) (w : gW) : gX Int32 := (gfA w a0 0 8).bind fun v1 => (gfJ w a0 0 0).bind fun v3 => (gck w v1 2).bind fun _ => gbind (f_La_lay g0 v1 a1 v3 w) fun v9 w => gjoin (fun K70 => gjoin (fun K62 => f_B_breaksSome_L14 g0 a0 a1 K70 K62 64 0 w) (fun (w : gW) => gguard ((1 : Int32) = 0 ∨ (1 : Int32) = 1) (some (.inr 1, w)))) (fun (w : gW) => gguard ((0 : Int32) = 0 ∨ (0 : Int32) = 1) (some (.inr 0, w)))
set_option maxHeartbeats 4000000 in
set_option maxRecDepth 100000 in
theorem m_B_breaksSome (l : Launch) (hst : l.stackTraces = false) (D : gD) (g0 : gG) (a0 : Nat) (a1 : Nat) (w : gW) (r : (String ⊕ Int32) × gW) (h : f_B_breaksSome g0 a0 a1 w = some r) : gMet l y_B_breaksSome (.code y_B_breaksSome b_B_breaksSome 4 (some .boolean)) rm_B_breaksSome D g0 [.ref a0, .ref a1] w (goI r) := by
  refine gw_ofZ (by decide +kernel) (Nat.le_of_ble_eq_true rfl) ?_
  intro p e s m below meth c ls args A Q hx hb hml hown hlocks hin hnt hT hK hZ hA hret hexc hthr hI hl
  obtain ⟨H, hH⟩ : ∃ H, H = s.heap := ⟨_, rfl⟩
  rw [← hH] at hI ⊢
  obtain ⟨locs, hlocs⟩ : ∃ z : List Loc, z = [] := ⟨_, rfl⟩
  rw [← hlocs] at hI ⊢
  have hl : lv_has ls 4 [(0, .ref a0), (1, .ref a1)] := hl
  unfold f_B_breaksSome at h
  refine lv_aload_n hx hb d_B_breaksSome_0 rfl (lv_at hl 0 rfl) ?_
  obtain ⟨v1, e2, h⟩ := gb h
  refine gw_getA hx hb hT hown hK hI (ci := 0) rfl i_0 8 (by decide) wd_197 (fun _ h9 => h9) e2 d_B_breaksSome_1 ?_
  refine lv_aload_n hx hb d_B_breaksSome_4 rfl (lv_at hl 1 rfl) ?_
  refine lv_aload_n hx hb d_B_breaksSome_5 rfl (lv_at hl 0 rfl) ?_
  obtain ⟨v3, e4, h⟩ := gb h
  refine gw_getJ hx hb hT hown hK hI (ci := 0) rfl i_0 0 (by decide) wd_189 (fun _ h9 => h9) e4 d_B_breaksSome_6 ?_
  obtain ⟨q7, e8, h⟩ := gb h
  obtain ⟨u5, e6⟩ := gsome h
  refine gw_callV e6 h (gw_runV (As := [.ref a1, .long v3]) (rest := []) hx hb hml hown hT hK hZ hA hI (ci := 2) rfl e8 (m_La_lay l hst D g0 v1 a1 v3 w u5 e6) ce_La_lay wd_336 wd_338 ⟨by decide, by decide⟩ rfl rfl hl.1 rfl (lv_room (Nat.le_of_ble_eq_true rfl)) d_B_breaksSome_9 ⟨(show 0 + 0 ≤ 0 by omega), (show 0 + 0 ≤ 0 by omega)⟩) hI hA hexc (show 0 + 0 ≤ 0 by omega) (show 0 + 0 ≤ 0 by omega) (fun v9 w H locs h hI => ?_)
  refine lv_iconst (v := 0) hx hb d_B_breaksSome_12 (by decide) ?_
  refine lv_istore_n (lv' := [(2, .int 0), (0, .ref a0), (1, .ref a1)]) hx hb d_B_breaksSome_13 rfl hl (by decide) rfl (fun ls hl => ?_)
  obtain ⟨K70, eK70, h⟩ := gj h
  have hK70 : ∀ (w : gW) (H : Heap) (locs : List Loc) (ls : Array Slot), K70 w = some r → gI D s A w H locs → lv_has ls 4 [] → W p l e rm_B_breaksSome s m args below meth c H locs 0 0 Q (F0 m 70 ls []) := by
    intro w H locs ls h hI hl
    have h := gk1 eK70 h
    refine lv_iconst (v := 0) hx hb d_B_breaksSome_70 (by decide) ?_
    obtain ⟨g10, h⟩ := gif h
    exact W.widen (show 0 ≤ 0 by omega) (show 0 ≤ 0 by omega) (hret g10 0 _ (Option.some.inj h).symm _ _ _ _ d_B_breaksSome_71 hI)
  obtain ⟨K62, eK62, h⟩ := gj h
  have hK62 : ∀ (w : gW) (H : Heap) (locs : List Loc) (ls : Array Slot), K62 w = some r → gI D s A w H locs → lv_has ls 4 [] → W p l e rm_B_breaksSome s m args below meth c H locs 0 0 Q (F0 m 62 ls []) := by
    intro w H locs ls h hI hl
    have h := gk1 eK62 h
    refine lv_iconst (v := 1) hx hb d_B_breaksSome_62 (by decide) ?_
    obtain ⟨g11, h⟩ := gif h
    exact W.widen (show 0 ≤ 0 by omega) (show 0 ≤ 0 by omega) (hret g11 0 _ (Option.some.inj h).symm _ _ _ _ d_B_breaksSome_63 hI)
  have hL14 : ∀ (n : Nat), ∀ (z12 : Int32) (w : gW) (H : Heap) (locs : List Loc) (ls : Array Slot), f_B_breaksSome_L14 g0 a0 a1 K70 K62 n z12 w = some r → gI D s A w H locs → lv_has ls 4 [(0, .ref a0), (1, .ref a1), (2, .int z12)] → W p l e rm_B_breaksSome s m args below meth c H locs 0 0 Q (F0 m 14 ls []) := by
    intro n
    induction n with
    | zero => intro z12 w H locs ls h hI hl; exact absurd h (by simp [f_B_breaksSome_L14])
    | succ n ih =>
      intro z12 w H locs ls h hI hl
      rw [f_B_breaksSome_L14] at h
      refine lv_iload_n hx hb d_B_breaksSome_14 rfl (lv_at hl 2 rfl) ?_
      refine lv_aload_n hx hb d_B_breaksSome_15 rfl (lv_at hl 0 rfl) ?_
      obtain ⟨v13, e14, h⟩ := gb h
      refine gw_getA hx hb hT hown hK hI (ci := 0) rfl i_0 3 (by decide) wd_192 (fun _ h9 => h9) e14 d_B_breaksSome_16 ?_
      obtain ⟨q17, e18, h⟩ := gb h
      obtain ⟨u15, e16⟩ := gsome h
      refine gw_callI e16 h (gw_runV (As := []) (rest := [.int z12]) hx hb hml hown hT hK hZ hA hI (ci := 1) rfl e18 (m_AL_size l hst D g0 v13 w u15 e16) ce_AL_size wd_224 wd_226 ⟨by decide, by decide⟩ rfl rfl hl.1 rfl (lv_room (Nat.le_of_ble_eq_true rfl)) d_B_breaksSome_19 ⟨(show 0 + 0 ≤ 0 by omega), (show 0 + 0 ≤ 0 by omega)⟩) hI hA hexc (show 0 + 0 ≤ 0 by omega) (show 0 + 0 ≤ 0 by omega) (fun v19 w H locs h hI => ?_)
      refine lv_icmp_ge (tgt := 70) hx hb d_B_breaksSome_22 (by decide) (fun c20 => ?_) (fun c20 => ?_)
      · skip
        have h := git c20 h
        exact hK70 w H locs ls h hI (lv_sub hl [] rfl)
      · skip
        have h := gie c20 h
        refine lv_aload_n hx hb d_B_breaksSome_25 rfl (lv_at hl 0 rfl) ?_
        obtain ⟨v21, e22, h⟩ := gb h
        refine gw_getA hx hb hT hown hK hI (ci := 0) rfl i_0 3 (by decide) wd_192 (fun _ h9 => h9) e22 d_B_breaksSome_26 ?_
        refine lv_iload_n hx hb d_B_breaksSome_29 rfl (lv_at hl 2 rfl) ?_
        obtain ⟨q25, e26, h⟩ := gb h
        obtain ⟨u23, e24⟩ := gsome h
        refine gw_callA e24 h (gw_runV (As := [.int z12]) (rest := []) hx hb hml hown hT hK hZ hA hI (ci := 1) rfl e26 (m_AL_get l hst D g0 v21 z12 w u23 e24) ce_AL_get wd_321 wd_323 ⟨by decide, by decide⟩ rfl rfl hl.1 rfl (lv_room (Nat.le_of_ble_eq_true rfl)) d_B_breaksSome_30 ⟨(show 0 + 0 ≤ 0 by omega), (show 0 + 0 ≤ 0 by omega)⟩) hI hA hexc (show 0 + 0 ≤ 0 by omega) (show 0 + 0 ≤ 0 by omega) (fun v27 w H locs h hI => ?_)
        obtain ⟨q29, e28, h⟩ := gb h
        refine gw_cast hx hb hT hown hK hI wd_418 (ci := 6) rfl wd_1121 e28 d_B_breaksSome_33 ?_
        refine lv_astore_n (lv' := [(3, .ref v27), (0, .ref a0), (1, .ref a1), (2, .int z12)]) hx hb d_B_breaksSome_36 rfl hl (by decide) rfl (fun ls hl => ?_)
        refine lv_aload_n hx hb d_B_breaksSome_37 rfl (lv_at hl 0 rfl) ?_
        obtain ⟨v30, e31, h⟩ := gb h
        refine gw_getI hx hb hT hown hK hI (ci := 6) rfl i_6 1 (by decide) wd_722 (fun _ h9 => h9) e31 d_B_breaksSome_38 ?_
        refine lv_aload_n hx hb d_B_breaksSome_41 rfl (lv_at hl 2 rfl) ?_
        obtain ⟨v32, e33, h⟩ := gb h
        refine gw_getI hx hb hT hown hK hI (ci := 5) rfl i_5 4 (by decide) wd_659 (fun _ h9 => h9) e33 d_B_breaksSome_42 ?_
        obtain ⟨K64, eK64, h⟩ := gj h
        have hK64 : ∀ (w : gW) (H : Heap) (locs : List Loc) (ls : Array Slot), K64 w = some r → gI D s A w H locs → lv_has ls 4 [(0, .ref a0), (1, .ref a1), (2, .int z12)] → W p l e rm_B_breaksSome s m args below meth c H locs 0 0 Q (F0 m 64 ls []) := by
          intro w H locs ls h hI hl
          have h := gk1 eK64 h
          refine lv_iinc (v := z12 + 1) (lv' := [(2, .int (z12 + 1)), (0, .ref a0), (1, .ref a1)]) hx hb d_B_breaksSome_64 hl (k := 2) rfl rfl (by decide) rfl (fun ls hl => ?_)
          refine lv_goto (tgt := 14) hx hb d_B_breaksSome_67 (by decide) ?_
          exact ih _ w H locs ls h hI (lv_sub hl [1, 2, 0] rfl)
        refine lv_icmp_ne (tgt := 64) hx hb d_B_breaksSome_45 (by decide) (fun c34 => ?_) (fun c34 => ?_)
        · skip
          have h := gie c34 h
          exact hK64 w H locs ls h hI (lv_sub hl [1, 2, 3] rfl)
        · skip
          have h := git c34 h
          refine lv_aload_n hx hb d_B_breaksSome_48 rfl (lv_at hl 1 rfl) ?_
          obtain ⟨v35, e36, h⟩ := gb h
          refine gw_getA hx hb hT hown hK hI (ci := 0) rfl i_0 8 (by decide) wd_197 (fun _ h9 => h9) e36 d_B_breaksSome_49 ?_
          refine lv_aload_n hx hb d_B_breaksSome_52 rfl (lv_at hl 0 rfl) ?_
          obtain ⟨v37, e38, h⟩ := gb h
          refine gw_getA hx hb hT hown hK hI (ci := 6) rfl i_6 0 (by decide) wd_720 (fun _ h9 => h9) e38 d_B_breaksSome_53 ?_
          obtain ⟨q41, e42, h⟩ := gb h
          obtain ⟨u39, e40⟩ := gsome h
          refine gw_callI e40 h (gw_runV (As := [.ref v37]) (rest := []) hx hb hml hown hT hK hZ hA hI (ci := 2) rfl e42 (m_La_reachesInto l hst D g0 v35 v37 w u39 e40) ce_La_reachesInto wd_419 wd_421 ⟨by decide, by decide⟩ rfl rfl hl.1 rfl (lv_room (Nat.le_of_ble_eq_true rfl)) d_B_breaksSome_56 ⟨(show 0 + 0 ≤ 0 by omega), (show 0 + 0 ≤ 0 by omega)⟩) hI hA hexc (show 0 + 0 ≤ 0 by omega) (show 0 + 0 ≤ 0 by omega) (fun v43 w H locs h hI => ?_)
          refine lv_if_eq (tgt := 64) hx hb d_B_breaksSome_59 (by decide) (fun c44 => ?_) (fun c44 => ?_)
          · skip
            have h := git c44 h
            exact hK64 w H locs ls h hI (lv_sub hl [1, 2, 3] rfl)
          · skip
            have h := gie c44 h
            exact hK62 w H locs ls h hI (lv_sub hl [] rfl)
  exact hL14 64 _ w H locs ls h hI (lv_sub hl [1, 2, 0] rfl)

abbrev b_B_breaks : ByteArray := prog_1_method_15_code
def y_B_breaks : MethodName := ⟨"BodySolids", "breaks", "(I)I"⟩
theorem d_B_breaks_0 : decode b_B_breaks 0 = .ok (.iconst 0, 1) := by decide +kernel
theorem d_B_breaks_1 : decode b_B_breaks 1 = .ok (.istore_n 2, 1) := by decide +kernel
theorem d_B_breaks_2 : decode b_B_breaks 2 = .ok (.iconst 0, 1) := by decide +kernel
theorem d_B_breaks_3 : decode b_B_breaks 3 = .ok (.istore_n 3, 1) := by decide +kernel
theorem d_B_breaks_4 : decode b_B_breaks 4 = .ok (.iload_n 3, 1) := by decide +kernel
theorem d_B_breaks_5 : decode b_B_breaks 5 = .ok (.aload_n 0, 1) := by decide +kernel
theorem d_B_breaks_6 : decode b_B_breaks 6 = .ok (.getfield 31, 3) := by decide +kernel
theorem d_B_breaks_9 : decode b_B_breaks 9 = .ok (.invokevirtual 68, 3) := by decide +kernel
theorem d_B_breaks_12 : decode b_B_breaks 12 = .ok (.if_icmp .ge 37, 3) := by decide +kernel
theorem d_B_breaks_15 : decode b_B_breaks 15 = .ok (.aload_n 0, 1) := by decide +kernel
theorem d_B_breaks_16 : decode b_B_breaks 16 = .ok (.aload_n 0, 1) := by decide +kernel
theorem d_B_breaks_17 : decode b_B_breaks 17 = .ok (.getfield 31, 3) := by decide +kernel
theorem d_B_breaks_20 : decode b_B_breaks 20 = .ok (.iload_n 3, 1) := by decide +kernel
theorem d_B_breaks_21 : decode b_B_breaks 21 = .ok (.invokevirtual 205, 3) := by decide +kernel
theorem d_B_breaks_24 : decode b_B_breaks 24 = .ok (.checkcast 164, 3) := by decide +kernel
theorem d_B_breaks_27 : decode b_B_breaks 27 = .ok (.invokevirtual 209, 3) := by decide +kernel
theorem d_B_breaks_30 : decode b_B_breaks 30 = .ok (.ifCond .eq 13, 3) := by decide +kernel
theorem d_B_breaks_33 : decode b_B_breaks 33 = .ok (.iload_n 2, 1) := by decide +kernel
theorem d_B_breaks_34 : decode b_B_breaks 34 = .ok (.iload_n 1, 1) := by decide +kernel
theorem d_B_breaks_35 : decode b_B_breaks 35 = .ok (.if_icmp .ne 5, 3) := by decide +kernel
theorem d_B_breaks_38 : decode b_B_breaks 38 = .ok (.iload_n 3, 1) := by decide +kernel
theorem d_B_breaks_39 : decode b_B_breaks 39 = .ok (.ireturn, 1) := by decide +kernel
theorem d_B_breaks_40 : decode b_B_breaks 40 = .ok (.iinc 2 1, 3) := by decide +kernel
theorem d_B_breaks_43 : decode b_B_breaks 43 = .ok (.iinc 3 1, 3) := by decide +kernel
theorem d_B_breaks_46 : decode b_B_breaks 46 = .ok (.goto (-42), 3) := by decide +kernel
theorem d_B_breaks_49 : decode b_B_breaks 49 = .ok (.iconst (-1), 1) := by decide +kernel
theorem d_B_breaks_50 : decode b_B_breaks 50 = .ok (.ireturn, 1) := by decide +kernel
abbrev rm_B_breaks : Room := { frames := 7, cells := 0, slots := 0, locals := 192 }
theorem ce_B_breaks : gCe y_B_breaks (.code y_B_breaks b_B_breaks 4 (some .int)) 4 1 false := gCe.code wd_413 wd_49 wd_411 (by decide) (by decide +kernel)
def f_B_breaks_L4 (g0 : gG) (c0 : Nat) (c1 : Int32) (K49 : gW → gX Int32) (K38 : Int32 → gW → gX Int32) : Nat → Int32 → Int32 → gW → gX Int32
  | 0, _, _, _ => none
  | n + 1, z2, z3, w => (gfA w c0 0 2).bind fun v2 => (gck w v2 1).bind fun _ => gbind (f_AL_size g0 v2 w) fun v8 w => if v8 ≤ z3 then (K49 w) else ((gfA w c0 0 2).bind fun v10 => (gck w v10 1).bind fun _ => gbind (f_AL_get g0 v10 z3 w) fun v16 w => (gck w v16 5).bind fun _ => (gck w c0 0).bind fun _ => gbind (f_B_breaksSome g0 c0 v16 w) fun v23 w => gjoin (fun K43 => if v23 = 0 then (K43 z2 w) else (if z2 = c1 then (K38 z3 w) else (K43 (z2 + 1) w))) (fun (x24 : Int32) (w : gW) => f_B_breaks_L4 g0 c0 c1 K49 K38 n x24 (z3 + 1) w))
def f_B_breaks (g0 : gG) (a0 : Nat) (p1 : Int32) (w : gW) : gX Int32 := gjoin (fun K49 => gjoin (fun K38 => f_B_breaks_L4 g0 a0 p1 K49 K38 64 0 0 w) (fun (x1 : Int32) (w : gW) => some (.inr x1, w))) (fun (w : gW) => some (.inr (-1), w))
set_option maxHeartbeats 4000000 in
set_option maxRecDepth 100000 in
theorem m_B_breaks (l : Launch) (hst : l.stackTraces = false) (D : gD) (g0 : gG) (a0 : Nat) (p1 : Int32) (w : gW) (r : (String ⊕ Int32) × gW) (h : f_B_breaks g0 a0 p1 w = some r) : gMet l y_B_breaks (.code y_B_breaks b_B_breaks 4 (some .int)) rm_B_breaks D g0 [.ref a0, .int p1] w (goI r) := by
  refine gw_ofI (by decide +kernel) (Nat.le_of_ble_eq_true rfl) ?_
  intro p e s m below meth c ls args A Q hx hb hml hown hlocks hin hnt hT hK hZ hA hret hexc hthr hI hl
  obtain ⟨H, hH⟩ : ∃ H, H = s.heap := ⟨_, rfl⟩
  rw [← hH] at hI ⊢
  obtain ⟨locs, hlocs⟩ : ∃ z : List Loc, z = [] := ⟨_, rfl⟩
  rw [← hlocs] at hI ⊢
  have hl : lv_has ls 4 [(0, .ref a0), (1, .int p1)] := hl
  unfold f_B_breaks at h
  refine lv_iconst (v := 0) hx hb d_B_breaks_0 (by decide) ?_
  refine lv_istore_n (lv' := [(2, .int 0), (0, .ref a0), (1, .int p1)]) hx hb d_B_breaks_1 rfl hl (by decide) rfl (fun ls hl => ?_)
  refine lv_iconst (v := 0) hx hb d_B_breaks_2 (by decide) ?_
  refine lv_istore_n (lv' := [(3, .int 0), (2, .int 0), (0, .ref a0), (1, .int p1)]) hx hb d_B_breaks_3 rfl hl (by decide) rfl (fun ls hl => ?_)
  obtain ⟨K49, eK49, h⟩ := gj h
  have hK49 : ∀ (w : gW) (H : Heap) (locs : List Loc) (ls : Array Slot), K49 w = some r → gI D s A w H locs → lv_has ls 4 [] → W p l e rm_B_breaks s m args below meth c H locs 0 0 Q (F0 m 49 ls []) := by
    intro w H locs ls h hI hl
    have h := gk1 eK49 h
    refine lv_iconst (v := -1) hx hb d_B_breaks_49 (by decide) ?_
    exact W.widen (show 0 ≤ 0 by omega) (show 0 ≤ 0 by omega) (hret _ _ (Option.some.inj h).symm _ _ _ _ d_B_breaks_50 hI)
  obtain ⟨K38, eK38, h⟩ := gj h
  have hK38 : ∀ (x1 : Int32) (w : gW) (H : Heap) (locs : List Loc) (ls : Array Slot), K38 x1 w = some r → gI D s A w H locs → lv_has ls 4 [(3, .int x1)] → W p l e rm_B_breaks s m args below meth c H locs 0 0 Q (F0 m 38 ls []) := by
    intro x1 w H locs ls h hI hl
    have h := gk2 eK38 h
    refine lv_iload_n hx hb d_B_breaks_38 rfl (lv_at hl 0 rfl) ?_
    exact W.widen (show 0 ≤ 0 by omega) (show 0 ≤ 0 by omega) (hret _ _ (Option.some.inj h).symm _ _ _ _ d_B_breaks_39 hI)
  have hL4 : ∀ (n : Nat), ∀ (z2 : Int32) (z3 : Int32) (w : gW) (H : Heap) (locs : List Loc) (ls : Array Slot), f_B_breaks_L4 g0 a0 p1 K49 K38 n z2 z3 w = some r → gI D s A w H locs → lv_has ls 4 [(0, .ref a0), (1, .int p1), (2, .int z2), (3, .int z3)] → W p l e rm_B_breaks s m args below meth c H locs 0 0 Q (F0 m 4 ls []) := by
    intro n
    induction n with
    | zero => intro z2 z3 w H locs ls h hI hl; exact absurd h (by simp [f_B_breaks_L4])
    | succ n ih =>
      intro z2 z3 w H locs ls h hI hl
      rw [f_B_breaks_L4] at h
      refine lv_iload_n hx hb d_B_breaks_4 rfl (lv_at hl 3 rfl) ?_
      refine lv_aload_n hx hb d_B_breaks_5 rfl (lv_at hl 0 rfl) ?_
      obtain ⟨v4, e5, h⟩ := gb h
      refine gw_getA hx hb hT hown hK hI (ci := 0) rfl i_0 2 (by decide) wd_191 (fun _ h9 => h9) e5 d_B_breaks_6 ?_
      obtain ⟨q8, e9, h⟩ := gb h
      obtain ⟨u6, e7⟩ := gsome h
      refine gw_callI e7 h (gw_runV (As := []) (rest := [.int z3]) hx hb hml hown hT hK hZ hA hI (ci := 1) rfl e9 (m_AL_size l hst D g0 v4 w u6 e7) ce_AL_size wd_224 wd_226 ⟨by decide, by decide⟩ rfl rfl hl.1 rfl (lv_room (Nat.le_of_ble_eq_true rfl)) d_B_breaks_9 ⟨(show 0 + 0 ≤ 0 by omega), (show 0 + 0 ≤ 0 by omega)⟩) hI hA hexc (show 0 + 0 ≤ 0 by omega) (show 0 + 0 ≤ 0 by omega) (fun v10 w H locs h hI => ?_)
      refine lv_icmp_ge (tgt := 49) hx hb d_B_breaks_12 (by decide) (fun c11 => ?_) (fun c11 => ?_)
      · skip
        have h := git c11 h
        exact hK49 w H locs ls h hI (lv_sub hl [] rfl)
      · skip
        have h := gie c11 h
        refine lv_aload_n hx hb d_B_breaks_15 rfl (lv_at hl 0 rfl) ?_
        refine lv_aload_n hx hb d_B_breaks_16 rfl (lv_at hl 0 rfl) ?_
        obtain ⟨v12, e13, h⟩ := gb h
        refine gw_getA hx hb hT hown hK hI (ci := 0) rfl i_0 2 (by decide) wd_191 (fun _ h9 => h9) e13 d_B_breaks_17 ?_
        refine lv_iload_n hx hb d_B_breaks_20 rfl (lv_at hl 3 rfl) ?_
        obtain ⟨q16, e17, h⟩ := gb h
        obtain ⟨u14, e15⟩ := gsome h
        refine gw_callA e15 h (gw_runV (As := [.int z3]) (rest := [.ref a0]) hx hb hml hown hT hK hZ hA hI (ci := 1) rfl e17 (m_AL_get l hst D g0 v12 z3 w u14 e15) ce_AL_get wd_321 wd_323 ⟨by decide, by decide⟩ rfl rfl hl.1 rfl (lv_room (Nat.le_of_ble_eq_true rfl)) d_B_breaks_21 ⟨(show 0 + 0 ≤ 0 by omega), (show 0 + 0 ≤ 0 by omega)⟩) hI hA hexc (show 0 + 0 ≤ 0 by omega) (show 0 + 0 ≤ 0 by omega) (fun v18 w H locs h hI => ?_)
        obtain ⟨q20, e19, h⟩ := gb h
        refine gw_cast hx hb hT hown hK hI wd_335 (ci := 5) rfl wd_1119 e19 d_B_breaks_24 ?_
        obtain ⟨q23, e24, h⟩ := gb h
        obtain ⟨u21, e22⟩ := gsome h
        refine gw_callI e22 h (gw_runV (As := [.ref v18]) (rest := []) hx hb hml hown hT hK hZ hA hI (ci := 0) rfl e24 (m_B_breaksSome l hst D g0 a0 v18 w u21 e22) ce_B_breaksSome wd_414 wd_6 ⟨by decide, by decide⟩ rfl rfl hl.1 rfl (lv_room (Nat.le_of_ble_eq_true rfl)) d_B_breaks_27 ⟨(show 0 + 0 ≤ 0 by omega), (show 0 + 0 ≤ 0 by omega)⟩) hI hA hexc (show 0 + 0 ≤ 0 by omega) (show 0 + 0 ≤ 0 by omega) (fun v25 w H locs h hI => ?_)
        obtain ⟨K43, eK43, h⟩ := gj h
        have hK43 : ∀ (x26 : Int32) (w : gW) (H : Heap) (locs : List Loc) (ls : Array Slot), K43 x26 w = some r → gI D s A w H locs → lv_has ls 4 [(0, .ref a0), (1, .int p1), (2, .int x26), (3, .int z3)] → W p l e rm_B_breaks s m args below meth c H locs 0 0 Q (F0 m 43 ls []) := by
          intro x26 w H locs ls h hI hl
          have h := gk2 eK43 h
          refine lv_iinc (v := z3 + 1) (lv' := [(3, .int (z3 + 1)), (0, .ref a0), (1, .int p1), (2, .int x26)]) hx hb d_B_breaks_43 hl (k := 3) rfl rfl (by decide) rfl (fun ls hl => ?_)
          refine lv_goto (tgt := 4) hx hb d_B_breaks_46 (by decide) ?_
          exact ih _ _ w H locs ls h hI (lv_sub hl [1, 2, 3, 0] rfl)
        refine lv_if_eq (tgt := 43) hx hb d_B_breaks_30 (by decide) (fun c27 => ?_) (fun c27 => ?_)
        · skip
          have h := git c27 h
          exact hK43 _ w H locs ls h hI (lv_sub hl [0, 1, 2, 3] rfl)
        · skip
          have h := gie c27 h
          refine lv_iload_n hx hb d_B_breaks_33 rfl (lv_at hl 2 rfl) ?_
          refine lv_iload_n hx hb d_B_breaks_34 rfl (lv_at hl 1 rfl) ?_
          refine lv_icmp_ne (tgt := 40) hx hb d_B_breaks_35 (by decide) (fun c28 => ?_) (fun c28 => ?_)
          · skip
            have h := gie c28 h
            refine lv_iinc (v := z2 + 1) (lv' := [(2, .int (z2 + 1)), (0, .ref a0), (1, .int p1), (3, .int z3)]) hx hb d_B_breaks_40 hl (k := 2) rfl rfl (by decide) rfl (fun ls hl => ?_)
            exact hK43 _ w H locs ls h hI (lv_sub hl [1, 2, 0, 3] rfl)
          · skip
            have h := git c28 h
            exact hK38 _ w H locs ls h hI (lv_sub hl [3] rfl)
  exact hL4 64 _ _ w H locs ls h hI (lv_sub hl [2, 3, 1, 0] rfl)

abbrev b_M_of : ByteArray := prog_9_method_10_code
def y_M_of : MethodName := ⟨"BodySolidsModel", "of", "(II)J"⟩
theorem d_M_of_0 : decode b_M_of 0 = .ok (.aload_n 0, 1) := by decide +kernel
theorem d_M_of_1 : decode b_M_of 1 = .ok (.getfield 16, 3) := by decide +kernel
theorem d_M_of_4 : decode b_M_of 4 = .ok (.bipush 6, 2) := by decide +kernel
theorem d_M_of_6 : decode b_M_of 6 = .ok (.iload_n 1, 1) := by decide +kernel
theorem d_M_of_7 : decode b_M_of 7 = .ok (.imul, 1) := by decide +kernel
theorem d_M_of_8 : decode b_M_of 8 = .ok (.iload_n 2, 1) := by decide +kernel
theorem d_M_of_9 : decode b_M_of 9 = .ok (.iadd, 1) := by decide +kernel
theorem d_M_of_10 : decode b_M_of 10 = .ok (.laload, 1) := by decide +kernel
theorem d_M_of_11 : decode b_M_of 11 = .ok (.lreturn, 1) := by decide +kernel
abbrev rm_M_of : Room := { frames := 0, cells := 0, slots := 0, locals := 0 }
theorem ce_M_of : gCe y_M_of (.code y_M_of b_M_of 3 (some .long)) 3 2 false := gCe.code wd_970 wd_57 wd_969 (by decide) (by decide +kernel)
def f_M_of (g0 : gG) (a0 : Nat) (p1 : Int32) (p2 : Int32) (w : gW) : gX Int64 := (gfA w a0 7 5).bind fun v1 => (gaJ w v1 ((6 * p1) + p2)).bind fun v3 => some (.inr v3, w)
set_option maxHeartbeats 4000000 in
set_option maxRecDepth 100000 in
theorem m_M_of (l : Launch) (hst : l.stackTraces = false) (D : gD) (g0 : gG) (a0 : Nat) (p1 : Int32) (p2 : Int32) (w : gW) (r : (String ⊕ Int64) × gW) (h : f_M_of g0 a0 p1 p2 w = some r) : gMet l y_M_of (.code y_M_of b_M_of 3 (some .long)) rm_M_of D g0 [.ref a0, .int p1, .int p2] w (goJ r) := by
  refine gw_ofJ (by decide +kernel) (Nat.le_of_ble_eq_true rfl) ?_
  intro p e s m below meth c ls args A Q hx hb hml hown hlocks hin hnt hT hK hZ hA hret hexc hthr hI hl
  obtain ⟨H, hH⟩ : ∃ H, H = s.heap := ⟨_, rfl⟩
  rw [← hH] at hI ⊢
  obtain ⟨locs, hlocs⟩ : ∃ z : List Loc, z = [] := ⟨_, rfl⟩
  rw [← hlocs] at hI ⊢
  have hl : lv_has ls 3 [(0, .ref a0), (1, .int p1), (2, .int p2)] := hl
  unfold f_M_of at h
  refine lv_aload_n hx hb d_M_of_0 rfl (lv_at hl 0 rfl) ?_
  obtain ⟨v1, e2, h⟩ := gb h
  refine gw_getA hx hb hT hown hK hI (ci := 7) rfl i_7 5 (by decide) wd_791 (fun _ h9 => h9) e2 d_M_of_1 ?_
  refine lv_bipush (v := 6) hx hb d_M_of_4 (by decide) ?_
  refine lv_iload_n hx hb d_M_of_6 rfl (lv_at hl 1 rfl) ?_
  refine lv_imul hx hb d_M_of_7 ?_
  refine lv_iload_n hx hb d_M_of_8 rfl (lv_at hl 2 rfl) ?_
  refine lv_iadd hx hb d_M_of_9 ?_
  obtain ⟨v3, e4, h⟩ := gb h
  refine gw_aldJ hx hb hK hI e4 d_M_of_10 ?_
  exact W.widen (show 0 ≤ 0 by omega) (show 0 ≤ 0 by omega) (hret _ _ (Option.some.inj h).symm _ _ _ _ d_M_of_11 hI)

abbrev b_M_xOf : ByteArray := prog_9_method_26_code
def y_M_xOf : MethodName := ⟨"BodySolidsModel", "xOf", "(IJJ)J"⟩
theorem d_M_xOf_0 : decode b_M_xOf 0 = .ok (.aload_n 0, 1) := by decide +kernel
theorem d_M_xOf_1 : decode b_M_xOf 1 = .ok (.getfield 47, 3) := by decide +kernel
theorem d_M_xOf_4 : decode b_M_xOf 4 = .ok (.iload_n 1, 1) := by decide +kernel
theorem d_M_xOf_5 : decode b_M_xOf 5 = .ok (.iaload, 1) := by decide +kernel
theorem d_M_xOf_6 : decode b_M_xOf 6 = .ok (.iconst 1, 1) := by decide +kernel
theorem d_M_xOf_7 : decode b_M_xOf 7 = .ok (.if_icmp .ne 9, 3) := by decide +kernel
theorem d_M_xOf_10 : decode b_M_xOf 10 = .ok (.lconst 0, 1) := by decide +kernel
theorem d_M_xOf_11 : decode b_M_xOf 11 = .ok (.lload_n 2, 1) := by decide +kernel
theorem d_M_xOf_12 : decode b_M_xOf 12 = .ok (.lsub, 1) := by decide +kernel
theorem d_M_xOf_13 : decode b_M_xOf 13 = .ok (.goto 4, 3) := by decide +kernel
theorem d_M_xOf_16 : decode b_M_xOf 16 = .ok (.lload_n 2, 1) := by decide +kernel
theorem d_M_xOf_17 : decode b_M_xOf 17 = .ok (.lstore 6, 2) := by decide +kernel
theorem d_M_xOf_19 : decode b_M_xOf 19 = .ok (.aload_n 0, 1) := by decide +kernel
theorem d_M_xOf_20 : decode b_M_xOf 20 = .ok (.getfield 44, 3) := by decide +kernel
theorem d_M_xOf_23 : decode b_M_xOf 23 = .ok (.iload_n 1, 1) := by decide +kernel
theorem d_M_xOf_24 : decode b_M_xOf 24 = .ok (.iaload, 1) := by decide +kernel
theorem d_M_xOf_25 : decode b_M_xOf 25 = .ok (.tableswitch 57 0 2 #[27, 37, 47], 27) := by decide +kernel
theorem d_M_xOf_52 : decode b_M_xOf 52 = .ok (.aload_n 0, 1) := by decide +kernel
theorem d_M_xOf_53 : decode b_M_xOf 53 = .ok (.getfield 38, 3) := by decide +kernel
theorem d_M_xOf_56 : decode b_M_xOf 56 = .ok (.iload_n 1, 1) := by decide +kernel
theorem d_M_xOf_57 : decode b_M_xOf 57 = .ok (.laload, 1) := by decide +kernel
theorem d_M_xOf_58 : decode b_M_xOf 58 = .ok (.lload 6, 2) := by decide +kernel
theorem d_M_xOf_60 : decode b_M_xOf 60 = .ok (.ladd, 1) := by decide +kernel
theorem d_M_xOf_61 : decode b_M_xOf 61 = .ok (.lreturn, 1) := by decide +kernel
theorem d_M_xOf_62 : decode b_M_xOf 62 = .ok (.aload_n 0, 1) := by decide +kernel
theorem d_M_xOf_63 : decode b_M_xOf 63 = .ok (.getfield 38, 3) := by decide +kernel
theorem d_M_xOf_66 : decode b_M_xOf 66 = .ok (.iload_n 1, 1) := by decide +kernel
theorem d_M_xOf_67 : decode b_M_xOf 67 = .ok (.laload, 1) := by decide +kernel
theorem d_M_xOf_68 : decode b_M_xOf 68 = .ok (.lload 4, 2) := by decide +kernel
theorem d_M_xOf_70 : decode b_M_xOf 70 = .ok (.lsub, 1) := by decide +kernel
theorem d_M_xOf_71 : decode b_M_xOf 71 = .ok (.lreturn, 1) := by decide +kernel
theorem d_M_xOf_72 : decode b_M_xOf 72 = .ok (.aload_n 0, 1) := by decide +kernel
theorem d_M_xOf_73 : decode b_M_xOf 73 = .ok (.getfield 38, 3) := by decide +kernel
theorem d_M_xOf_76 : decode b_M_xOf 76 = .ok (.iload_n 1, 1) := by decide +kernel
theorem d_M_xOf_77 : decode b_M_xOf 77 = .ok (.laload, 1) := by decide +kernel
theorem d_M_xOf_78 : decode b_M_xOf 78 = .ok (.lload 6, 2) := by decide +kernel
theorem d_M_xOf_80 : decode b_M_xOf 80 = .ok (.lsub, 1) := by decide +kernel
theorem d_M_xOf_81 : decode b_M_xOf 81 = .ok (.lreturn, 1) := by decide +kernel
theorem d_M_xOf_82 : decode b_M_xOf 82 = .ok (.aload_n 0, 1) := by decide +kernel
theorem d_M_xOf_83 : decode b_M_xOf 83 = .ok (.getfield 38, 3) := by decide +kernel
theorem d_M_xOf_86 : decode b_M_xOf 86 = .ok (.iload_n 1, 1) := by decide +kernel
theorem d_M_xOf_87 : decode b_M_xOf 87 = .ok (.laload, 1) := by decide +kernel
theorem d_M_xOf_88 : decode b_M_xOf 88 = .ok (.lload 4, 2) := by decide +kernel
theorem d_M_xOf_90 : decode b_M_xOf 90 = .ok (.ladd, 1) := by decide +kernel
theorem d_M_xOf_91 : decode b_M_xOf 91 = .ok (.lreturn, 1) := by decide +kernel
abbrev rm_M_xOf : Room := { frames := 0, cells := 0, slots := 0, locals := 0 }
theorem ce_M_xOf : gCe y_M_xOf (.code y_M_xOf b_M_xOf 8 (some .long)) 8 3 false := gCe.code wd_978 wd_57 wd_977 (by decide) (by decide +kernel)
def f_M_xOf (g0 : gG) (a0 : Nat) (p1 : Int32) (p2 : Int64) (p3 : Int64) (w : gW) : gX Int64 := (gfA w a0 7 17).bind fun v1 => (gaI w v1 p1).bind fun v3 => gjoin (fun K17 => if v3 = 1 then (K17 (0 - p2) w) else (K17 p2 w)) (fun (y5 : Int64) (w : gW) => (gfA w a0 7 16).bind fun v6 => (gaI w v6 p1).bind fun v8 => if v8 = 0 then ((gfA w a0 7 14).bind fun v11 => (gaJ w v11 p1).bind fun v13 => some (.inr (v13 + y5), w)) else (if v8 = 1 then ((gfA w a0 7 14).bind fun v16 => (gaJ w v16 p1).bind fun v18 => some (.inr (v18 - p3), w)) else (if v8 = 2 then ((gfA w a0 7 14).bind fun v21 => (gaJ w v21 p1).bind fun v23 => some (.inr (v23 - y5), w)) else ((gfA w a0 7 14).bind fun v25 => (gaJ w v25 p1).bind fun v27 => some (.inr (v27 + p3), w)))))
set_option maxHeartbeats 4000000 in
set_option maxRecDepth 100000 in
theorem m_M_xOf (l : Launch) (hst : l.stackTraces = false) (D : gD) (g0 : gG) (a0 : Nat) (p1 : Int32) (p2 : Int64) (p3 : Int64) (w : gW) (r : (String ⊕ Int64) × gW) (h : f_M_xOf g0 a0 p1 p2 p3 w = some r) : gMet l y_M_xOf (.code y_M_xOf b_M_xOf 8 (some .long)) rm_M_xOf D g0 [.ref a0, .int p1, .long p2, .long p3] w (goJ r) := by
  refine gw_ofJ (by decide +kernel) (Nat.le_of_ble_eq_true rfl) ?_
  intro p e s m below meth c ls args A Q hx hb hml hown hlocks hin hnt hT hK hZ hA hret hexc hthr hI hl
  obtain ⟨H, hH⟩ : ∃ H, H = s.heap := ⟨_, rfl⟩
  rw [← hH] at hI ⊢
  obtain ⟨locs, hlocs⟩ : ∃ z : List Loc, z = [] := ⟨_, rfl⟩
  rw [← hlocs] at hI ⊢
  have hl : lv_has ls 8 [(0, .ref a0), (1, .int p1), (2, .long p2), (4, .long p3)] := hl
  unfold f_M_xOf at h
  refine lv_aload_n hx hb d_M_xOf_0 rfl (lv_at hl 0 rfl) ?_
  obtain ⟨v1, e2, h⟩ := gb h
  refine gw_getA hx hb hT hown hK hI (ci := 7) rfl i_7 17 (by decide) wd_803 (fun _ h9 => h9) e2 d_M_xOf_1 ?_
  refine lv_iload_n hx hb d_M_xOf_4 rfl (lv_at hl 1 rfl) ?_
  obtain ⟨v3, e4, h⟩ := gb h
  refine gw_aldI hx hb hK hI e4 d_M_xOf_5 ?_
  refine lv_iconst (v := 1) hx hb d_M_xOf_6 (by decide) ?_
  obtain ⟨K17, eK17, h⟩ := gj h
  have hK17 : ∀ (y5 : Int64) (w : gW) (H : Heap) (locs : List Loc) (ls : Array Slot), K17 y5 w = some r → gI D s A w H locs → lv_has ls 8 [(0, .ref a0), (1, .int p1), (4, .long p3)] → W p l e rm_M_xOf s m args below meth c H locs 0 0 Q (F0 m 17 ls [.long y5]) := by
    intro y5 w H locs ls h hI hl
    have h := gk2 eK17 h
    refine lv_lstore (lv' := [(6, .long y5), (0, .ref a0), (1, .int p1), (4, .long p3)]) hx hb d_M_xOf_17 hl (by decide) rfl (fun ls hl => ?_)
    refine lv_aload_n hx hb d_M_xOf_19 rfl (lv_at hl 1 rfl) ?_
    obtain ⟨v6, e7, h⟩ := gb h
    refine gw_getA hx hb hT hown hK hI (ci := 7) rfl i_7 16 (by decide) wd_802 (fun _ h9 => h9) e7 d_M_xOf_20 ?_
    refine lv_iload_n hx hb d_M_xOf_23 rfl (lv_at hl 2 rfl) ?_
    obtain ⟨v8, e9, h⟩ := gb h
    refine gw_aldI hx hb hK hI e9 d_M_xOf_24 ?_
    rcases Decidable.em (v8 = 0) with c10 | c10
    · have h := git c10 h
      refine lv_tableIn (off := 27) (tgt := 52) hx hb d_M_xOf_25 (by rw [c10]; decide) (by rw [c10]; decide) (by rw [c10]; decide) (by decide) ?_
      refine lv_aload_n hx hb d_M_xOf_52 rfl (lv_at hl 1 rfl) ?_
      obtain ⟨v11, e12, h⟩ := gb h
      refine gw_getA hx hb hT hown hK hI (ci := 7) rfl i_7 14 (by decide) wd_800 (fun _ h9 => h9) e12 d_M_xOf_53 ?_
      refine lv_iload_n hx hb d_M_xOf_56 rfl (lv_at hl 2 rfl) ?_
      obtain ⟨v13, e14, h⟩ := gb h
      refine gw_aldJ hx hb hK hI e14 d_M_xOf_57 ?_
      refine lv_lload hx hb d_M_xOf_58 (lv_at hl 0 rfl) ?_
      refine lv_ladd hx hb d_M_xOf_60 ?_
      exact W.widen (show 0 ≤ 0 by omega) (show 0 ≤ 0 by omega) (hret _ _ (Option.some.inj h).symm _ _ _ _ d_M_xOf_61 hI)
    have h := gie c10 h
    rcases Decidable.em (v8 = 1) with c15 | c15
    · have h := git c15 h
      refine lv_tableIn (off := 37) (tgt := 62) hx hb d_M_xOf_25 (by rw [c15]; decide) (by rw [c15]; decide) (by rw [c15]; decide) (by decide) ?_
      refine lv_aload_n hx hb d_M_xOf_62 rfl (lv_at hl 1 rfl) ?_
      obtain ⟨v16, e17, h⟩ := gb h
      refine gw_getA hx hb hT hown hK hI (ci := 7) rfl i_7 14 (by decide) wd_800 (fun _ h9 => h9) e17 d_M_xOf_63 ?_
      refine lv_iload_n hx hb d_M_xOf_66 rfl (lv_at hl 2 rfl) ?_
      obtain ⟨v18, e19, h⟩ := gb h
      refine gw_aldJ hx hb hK hI e19 d_M_xOf_67 ?_
      refine lv_lload hx hb d_M_xOf_68 (lv_at hl 3 rfl) ?_
      refine lv_lsub hx hb d_M_xOf_70 ?_
      exact W.widen (show 0 ≤ 0 by omega) (show 0 ≤ 0 by omega) (hret _ _ (Option.some.inj h).symm _ _ _ _ d_M_xOf_71 hI)
    have h := gie c15 h
    rcases Decidable.em (v8 = 2) with c20 | c20
    · have h := git c20 h
      refine lv_tableIn (off := 47) (tgt := 72) hx hb d_M_xOf_25 (by rw [c20]; decide) (by rw [c20]; decide) (by rw [c20]; decide) (by decide) ?_
      refine lv_aload_n hx hb d_M_xOf_72 rfl (lv_at hl 1 rfl) ?_
      obtain ⟨v21, e22, h⟩ := gb h
      refine gw_getA hx hb hT hown hK hI (ci := 7) rfl i_7 14 (by decide) wd_800 (fun _ h9 => h9) e22 d_M_xOf_73 ?_
      refine lv_iload_n hx hb d_M_xOf_76 rfl (lv_at hl 2 rfl) ?_
      obtain ⟨v23, e24, h⟩ := gb h
      refine gw_aldJ hx hb hK hI e24 d_M_xOf_77 ?_
      refine lv_lload hx hb d_M_xOf_78 (lv_at hl 0 rfl) ?_
      refine lv_lsub hx hb d_M_xOf_80 ?_
      exact W.widen (show 0 ≤ 0 by omega) (show 0 ≤ 0 by omega) (hret _ _ (Option.some.inj h).symm _ _ _ _ d_M_xOf_81 hI)
    have h := gie c20 h
    refine lv_tableOut (tgt := 82) hx hb d_M_xOf_25 (by have q0 := lv_neT c10 (show (0 : Int32).toInt = 0 by decide); have q1 := lv_neT c15 (show (1 : Int32).toInt = 1 by decide); have q2 := lv_neT c20 (show (2 : Int32).toInt = 2 by decide); omega) (by decide) ?_
    refine lv_aload_n hx hb d_M_xOf_82 rfl (lv_at hl 1 rfl) ?_
    obtain ⟨v25, e26, h⟩ := gb h
    refine gw_getA hx hb hT hown hK hI (ci := 7) rfl i_7 14 (by decide) wd_800 (fun _ h9 => h9) e26 d_M_xOf_83 ?_
    refine lv_iload_n hx hb d_M_xOf_86 rfl (lv_at hl 2 rfl) ?_
    obtain ⟨v27, e28, h⟩ := gb h
    refine gw_aldJ hx hb hK hI e28 d_M_xOf_87 ?_
    refine lv_lload hx hb d_M_xOf_88 (lv_at hl 3 rfl) ?_
    refine lv_ladd hx hb d_M_xOf_90 ?_
    exact W.widen (show 0 ≤ 0 by omega) (show 0 ≤ 0 by omega) (hret _ _ (Option.some.inj h).symm _ _ _ _ d_M_xOf_91 hI)
  refine lv_icmp_ne (tgt := 16) hx hb d_M_xOf_7 (by decide) (fun c29 => ?_) (fun c29 => ?_)
  · skip
    have h := gie c29 h
    refine lv_lload_n hx hb d_M_xOf_16 rfl (lv_at hl 2 rfl) ?_
    exact hK17 _ w H locs ls h hI (lv_sub hl [0, 1, 3] rfl)
  · skip
    have h := git c29 h
    refine lv_lconst (v := 0) hx hb d_M_xOf_10 (by decide) ?_
    refine lv_lload_n hx hb d_M_xOf_11 rfl (lv_at hl 2 rfl) ?_
    refine lv_lsub hx hb d_M_xOf_12 ?_
    refine lv_goto (tgt := 17) hx hb d_M_xOf_13 (by decide) ?_
    exact hK17 _ w H locs ls h hI (lv_sub hl [0, 1, 3] rfl)

abbrev b_M_yOf : ByteArray := prog_9_method_27_code
def y_M_yOf : MethodName := ⟨"BodySolidsModel", "yOf", "(IJJ)J"⟩
theorem d_M_yOf_0 : decode b_M_yOf 0 = .ok (.aload_n 0, 1) := by decide +kernel
theorem d_M_yOf_1 : decode b_M_yOf 1 = .ok (.getfield 47, 3) := by decide +kernel
theorem d_M_yOf_4 : decode b_M_yOf 4 = .ok (.iload_n 1, 1) := by decide +kernel
theorem d_M_yOf_5 : decode b_M_yOf 5 = .ok (.iaload, 1) := by decide +kernel
theorem d_M_yOf_6 : decode b_M_yOf 6 = .ok (.iconst 1, 1) := by decide +kernel
theorem d_M_yOf_7 : decode b_M_yOf 7 = .ok (.if_icmp .ne 9, 3) := by decide +kernel
theorem d_M_yOf_10 : decode b_M_yOf 10 = .ok (.lconst 0, 1) := by decide +kernel
theorem d_M_yOf_11 : decode b_M_yOf 11 = .ok (.lload_n 2, 1) := by decide +kernel
theorem d_M_yOf_12 : decode b_M_yOf 12 = .ok (.lsub, 1) := by decide +kernel
theorem d_M_yOf_13 : decode b_M_yOf 13 = .ok (.goto 4, 3) := by decide +kernel
theorem d_M_yOf_16 : decode b_M_yOf 16 = .ok (.lload_n 2, 1) := by decide +kernel
theorem d_M_yOf_17 : decode b_M_yOf 17 = .ok (.lstore 6, 2) := by decide +kernel
theorem d_M_yOf_19 : decode b_M_yOf 19 = .ok (.aload_n 0, 1) := by decide +kernel
theorem d_M_yOf_20 : decode b_M_yOf 20 = .ok (.getfield 44, 3) := by decide +kernel
theorem d_M_yOf_23 : decode b_M_yOf 23 = .ok (.iload_n 1, 1) := by decide +kernel
theorem d_M_yOf_24 : decode b_M_yOf 24 = .ok (.iaload, 1) := by decide +kernel
theorem d_M_yOf_25 : decode b_M_yOf 25 = .ok (.tableswitch 57 0 2 #[27, 37, 47], 27) := by decide +kernel
theorem d_M_yOf_52 : decode b_M_yOf 52 = .ok (.aload_n 0, 1) := by decide +kernel
theorem d_M_yOf_53 : decode b_M_yOf 53 = .ok (.getfield 41, 3) := by decide +kernel
theorem d_M_yOf_56 : decode b_M_yOf 56 = .ok (.iload_n 1, 1) := by decide +kernel
theorem d_M_yOf_57 : decode b_M_yOf 57 = .ok (.laload, 1) := by decide +kernel
theorem d_M_yOf_58 : decode b_M_yOf 58 = .ok (.lload 4, 2) := by decide +kernel
theorem d_M_yOf_60 : decode b_M_yOf 60 = .ok (.ladd, 1) := by decide +kernel
theorem d_M_yOf_61 : decode b_M_yOf 61 = .ok (.lreturn, 1) := by decide +kernel
theorem d_M_yOf_62 : decode b_M_yOf 62 = .ok (.aload_n 0, 1) := by decide +kernel
theorem d_M_yOf_63 : decode b_M_yOf 63 = .ok (.getfield 41, 3) := by decide +kernel
theorem d_M_yOf_66 : decode b_M_yOf 66 = .ok (.iload_n 1, 1) := by decide +kernel
theorem d_M_yOf_67 : decode b_M_yOf 67 = .ok (.laload, 1) := by decide +kernel
theorem d_M_yOf_68 : decode b_M_yOf 68 = .ok (.lload 6, 2) := by decide +kernel
theorem d_M_yOf_70 : decode b_M_yOf 70 = .ok (.ladd, 1) := by decide +kernel
theorem d_M_yOf_71 : decode b_M_yOf 71 = .ok (.lreturn, 1) := by decide +kernel
theorem d_M_yOf_72 : decode b_M_yOf 72 = .ok (.aload_n 0, 1) := by decide +kernel
theorem d_M_yOf_73 : decode b_M_yOf 73 = .ok (.getfield 41, 3) := by decide +kernel
theorem d_M_yOf_76 : decode b_M_yOf 76 = .ok (.iload_n 1, 1) := by decide +kernel
theorem d_M_yOf_77 : decode b_M_yOf 77 = .ok (.laload, 1) := by decide +kernel
theorem d_M_yOf_78 : decode b_M_yOf 78 = .ok (.lload 4, 2) := by decide +kernel
theorem d_M_yOf_80 : decode b_M_yOf 80 = .ok (.lsub, 1) := by decide +kernel
theorem d_M_yOf_81 : decode b_M_yOf 81 = .ok (.lreturn, 1) := by decide +kernel
theorem d_M_yOf_82 : decode b_M_yOf 82 = .ok (.aload_n 0, 1) := by decide +kernel
theorem d_M_yOf_83 : decode b_M_yOf 83 = .ok (.getfield 41, 3) := by decide +kernel
theorem d_M_yOf_86 : decode b_M_yOf 86 = .ok (.iload_n 1, 1) := by decide +kernel
theorem d_M_yOf_87 : decode b_M_yOf 87 = .ok (.laload, 1) := by decide +kernel
theorem d_M_yOf_88 : decode b_M_yOf 88 = .ok (.lload 6, 2) := by decide +kernel
theorem d_M_yOf_90 : decode b_M_yOf 90 = .ok (.lsub, 1) := by decide +kernel
theorem d_M_yOf_91 : decode b_M_yOf 91 = .ok (.lreturn, 1) := by decide +kernel
abbrev rm_M_yOf : Room := { frames := 0, cells := 0, slots := 0, locals := 0 }
theorem ce_M_yOf : gCe y_M_yOf (.code y_M_yOf b_M_yOf 8 (some .long)) 8 3 false := gCe.code wd_982 wd_57 wd_981 (by decide) (by decide +kernel)
def f_M_yOf (g0 : gG) (a0 : Nat) (p1 : Int32) (p2 : Int64) (p3 : Int64) (w : gW) : gX Int64 := (gfA w a0 7 17).bind fun v1 => (gaI w v1 p1).bind fun v3 => gjoin (fun K17 => if v3 = 1 then (K17 (0 - p2) w) else (K17 p2 w)) (fun (y5 : Int64) (w : gW) => (gfA w a0 7 16).bind fun v6 => (gaI w v6 p1).bind fun v8 => if v8 = 0 then ((gfA w a0 7 15).bind fun v11 => (gaJ w v11 p1).bind fun v13 => some (.inr (v13 + p3), w)) else (if v8 = 1 then ((gfA w a0 7 15).bind fun v16 => (gaJ w v16 p1).bind fun v18 => some (.inr (v18 + y5), w)) else (if v8 = 2 then ((gfA w a0 7 15).bind fun v21 => (gaJ w v21 p1).bind fun v23 => some (.inr (v23 - p3), w)) else ((gfA w a0 7 15).bind fun v25 => (gaJ w v25 p1).bind fun v27 => some (.inr (v27 - y5), w)))))
set_option maxHeartbeats 4000000 in
set_option maxRecDepth 100000 in
theorem m_M_yOf (l : Launch) (hst : l.stackTraces = false) (D : gD) (g0 : gG) (a0 : Nat) (p1 : Int32) (p2 : Int64) (p3 : Int64) (w : gW) (r : (String ⊕ Int64) × gW) (h : f_M_yOf g0 a0 p1 p2 p3 w = some r) : gMet l y_M_yOf (.code y_M_yOf b_M_yOf 8 (some .long)) rm_M_yOf D g0 [.ref a0, .int p1, .long p2, .long p3] w (goJ r) := by
  refine gw_ofJ (by decide +kernel) (Nat.le_of_ble_eq_true rfl) ?_
  intro p e s m below meth c ls args A Q hx hb hml hown hlocks hin hnt hT hK hZ hA hret hexc hthr hI hl
  obtain ⟨H, hH⟩ : ∃ H, H = s.heap := ⟨_, rfl⟩
  rw [← hH] at hI ⊢
  obtain ⟨locs, hlocs⟩ : ∃ z : List Loc, z = [] := ⟨_, rfl⟩
  rw [← hlocs] at hI ⊢
  have hl : lv_has ls 8 [(0, .ref a0), (1, .int p1), (2, .long p2), (4, .long p3)] := hl
  unfold f_M_yOf at h
  refine lv_aload_n hx hb d_M_yOf_0 rfl (lv_at hl 0 rfl) ?_
  obtain ⟨v1, e2, h⟩ := gb h
  refine gw_getA hx hb hT hown hK hI (ci := 7) rfl i_7 17 (by decide) wd_803 (fun _ h9 => h9) e2 d_M_yOf_1 ?_
  refine lv_iload_n hx hb d_M_yOf_4 rfl (lv_at hl 1 rfl) ?_
  obtain ⟨v3, e4, h⟩ := gb h
  refine gw_aldI hx hb hK hI e4 d_M_yOf_5 ?_
  refine lv_iconst (v := 1) hx hb d_M_yOf_6 (by decide) ?_
  obtain ⟨K17, eK17, h⟩ := gj h
  have hK17 : ∀ (y5 : Int64) (w : gW) (H : Heap) (locs : List Loc) (ls : Array Slot), K17 y5 w = some r → gI D s A w H locs → lv_has ls 8 [(0, .ref a0), (1, .int p1), (4, .long p3)] → W p l e rm_M_yOf s m args below meth c H locs 0 0 Q (F0 m 17 ls [.long y5]) := by
    intro y5 w H locs ls h hI hl
    have h := gk2 eK17 h
    refine lv_lstore (lv' := [(6, .long y5), (0, .ref a0), (1, .int p1), (4, .long p3)]) hx hb d_M_yOf_17 hl (by decide) rfl (fun ls hl => ?_)
    refine lv_aload_n hx hb d_M_yOf_19 rfl (lv_at hl 1 rfl) ?_
    obtain ⟨v6, e7, h⟩ := gb h
    refine gw_getA hx hb hT hown hK hI (ci := 7) rfl i_7 16 (by decide) wd_802 (fun _ h9 => h9) e7 d_M_yOf_20 ?_
    refine lv_iload_n hx hb d_M_yOf_23 rfl (lv_at hl 2 rfl) ?_
    obtain ⟨v8, e9, h⟩ := gb h
    refine gw_aldI hx hb hK hI e9 d_M_yOf_24 ?_
    rcases Decidable.em (v8 = 0) with c10 | c10
    · have h := git c10 h
      refine lv_tableIn (off := 27) (tgt := 52) hx hb d_M_yOf_25 (by rw [c10]; decide) (by rw [c10]; decide) (by rw [c10]; decide) (by decide) ?_
      refine lv_aload_n hx hb d_M_yOf_52 rfl (lv_at hl 1 rfl) ?_
      obtain ⟨v11, e12, h⟩ := gb h
      refine gw_getA hx hb hT hown hK hI (ci := 7) rfl i_7 15 (by decide) wd_801 (fun _ h9 => h9) e12 d_M_yOf_53 ?_
      refine lv_iload_n hx hb d_M_yOf_56 rfl (lv_at hl 2 rfl) ?_
      obtain ⟨v13, e14, h⟩ := gb h
      refine gw_aldJ hx hb hK hI e14 d_M_yOf_57 ?_
      refine lv_lload hx hb d_M_yOf_58 (lv_at hl 3 rfl) ?_
      refine lv_ladd hx hb d_M_yOf_60 ?_
      exact W.widen (show 0 ≤ 0 by omega) (show 0 ≤ 0 by omega) (hret _ _ (Option.some.inj h).symm _ _ _ _ d_M_yOf_61 hI)
    have h := gie c10 h
    rcases Decidable.em (v8 = 1) with c15 | c15
    · have h := git c15 h
      refine lv_tableIn (off := 37) (tgt := 62) hx hb d_M_yOf_25 (by rw [c15]; decide) (by rw [c15]; decide) (by rw [c15]; decide) (by decide) ?_
      refine lv_aload_n hx hb d_M_yOf_62 rfl (lv_at hl 1 rfl) ?_
      obtain ⟨v16, e17, h⟩ := gb h
      refine gw_getA hx hb hT hown hK hI (ci := 7) rfl i_7 15 (by decide) wd_801 (fun _ h9 => h9) e17 d_M_yOf_63 ?_
      refine lv_iload_n hx hb d_M_yOf_66 rfl (lv_at hl 2 rfl) ?_
      obtain ⟨v18, e19, h⟩ := gb h
      refine gw_aldJ hx hb hK hI e19 d_M_yOf_67 ?_
      refine lv_lload hx hb d_M_yOf_68 (lv_at hl 0 rfl) ?_
      refine lv_ladd hx hb d_M_yOf_70 ?_
      exact W.widen (show 0 ≤ 0 by omega) (show 0 ≤ 0 by omega) (hret _ _ (Option.some.inj h).symm _ _ _ _ d_M_yOf_71 hI)
    have h := gie c15 h
    rcases Decidable.em (v8 = 2) with c20 | c20
    · have h := git c20 h
      refine lv_tableIn (off := 47) (tgt := 72) hx hb d_M_yOf_25 (by rw [c20]; decide) (by rw [c20]; decide) (by rw [c20]; decide) (by decide) ?_
      refine lv_aload_n hx hb d_M_yOf_72 rfl (lv_at hl 1 rfl) ?_
      obtain ⟨v21, e22, h⟩ := gb h
      refine gw_getA hx hb hT hown hK hI (ci := 7) rfl i_7 15 (by decide) wd_801 (fun _ h9 => h9) e22 d_M_yOf_73 ?_
      refine lv_iload_n hx hb d_M_yOf_76 rfl (lv_at hl 2 rfl) ?_
      obtain ⟨v23, e24, h⟩ := gb h
      refine gw_aldJ hx hb hK hI e24 d_M_yOf_77 ?_
      refine lv_lload hx hb d_M_yOf_78 (lv_at hl 3 rfl) ?_
      refine lv_lsub hx hb d_M_yOf_80 ?_
      exact W.widen (show 0 ≤ 0 by omega) (show 0 ≤ 0 by omega) (hret _ _ (Option.some.inj h).symm _ _ _ _ d_M_yOf_81 hI)
    have h := gie c20 h
    refine lv_tableOut (tgt := 82) hx hb d_M_yOf_25 (by have q0 := lv_neT c10 (show (0 : Int32).toInt = 0 by decide); have q1 := lv_neT c15 (show (1 : Int32).toInt = 1 by decide); have q2 := lv_neT c20 (show (2 : Int32).toInt = 2 by decide); omega) (by decide) ?_
    refine lv_aload_n hx hb d_M_yOf_82 rfl (lv_at hl 1 rfl) ?_
    obtain ⟨v25, e26, h⟩ := gb h
    refine gw_getA hx hb hT hown hK hI (ci := 7) rfl i_7 15 (by decide) wd_801 (fun _ h9 => h9) e26 d_M_yOf_83 ?_
    refine lv_iload_n hx hb d_M_yOf_86 rfl (lv_at hl 2 rfl) ?_
    obtain ⟨v27, e28, h⟩ := gb h
    refine gw_aldJ hx hb hK hI e28 d_M_yOf_87 ?_
    refine lv_lload hx hb d_M_yOf_88 (lv_at hl 0 rfl) ?_
    refine lv_lsub hx hb d_M_yOf_90 ?_
    exact W.widen (show 0 ≤ 0 by omega) (show 0 ≤ 0 by omega) (hret _ _ (Option.some.inj h).symm _ _ _ _ d_M_yOf_91 hI)
  refine lv_icmp_ne (tgt := 16) hx hb d_M_yOf_7 (by decide) (fun c29 => ?_) (fun c29 => ?_)
  · skip
    have h := gie c29 h
    refine lv_lload_n hx hb d_M_yOf_16 rfl (lv_at hl 2 rfl) ?_
    exact hK17 _ w H locs ls h hI (lv_sub hl [0, 1, 3] rfl)
  · skip
    have h := git c29 h
    refine lv_lconst (v := 0) hx hb d_M_yOf_10 (by decide) ?_
    refine lv_lload_n hx hb d_M_yOf_11 rfl (lv_at hl 2 rfl) ?_
    refine lv_lsub hx hb d_M_yOf_12 ?_
    refine lv_goto (tgt := 17) hx hb d_M_yOf_13 (by decide) ?_
    exact hK17 _ w H locs ls h hI (lv_sub hl [0, 1, 3] rfl)

abbrev b_M_point : ByteArray := prog_9_method_30_code
def y_M_point : MethodName := ⟨"BodySolidsModel", "point", "(IIJJ)V"⟩
theorem d_M_point_0 : decode b_M_point 0 = .ok (.aload_n 0, 1) := by decide +kernel
theorem d_M_point_1 : decode b_M_point 1 = .ok (.getfield 59, 3) := by decide +kernel
theorem d_M_point_4 : decode b_M_point 4 = .ok (.bipush 8, 2) := by decide +kernel
theorem d_M_point_6 : decode b_M_point 6 = .ok (.iload_n 1, 1) := by decide +kernel
theorem d_M_point_7 : decode b_M_point 7 = .ok (.imul, 1) := by decide +kernel
theorem d_M_point_8 : decode b_M_point 8 = .ok (.iload_n 2, 1) := by decide +kernel
theorem d_M_point_9 : decode b_M_point 9 = .ok (.iadd, 1) := by decide +kernel
theorem d_M_point_10 : decode b_M_point 10 = .ok (.lload_n 3, 1) := by decide +kernel
theorem d_M_point_11 : decode b_M_point 11 = .ok (.lastore, 1) := by decide +kernel
theorem d_M_point_12 : decode b_M_point 12 = .ok (.aload_n 0, 1) := by decide +kernel
theorem d_M_point_13 : decode b_M_point 13 = .ok (.getfield 62, 3) := by decide +kernel
theorem d_M_point_16 : decode b_M_point 16 = .ok (.bipush 8, 2) := by decide +kernel
theorem d_M_point_18 : decode b_M_point 18 = .ok (.iload_n 1, 1) := by decide +kernel
theorem d_M_point_19 : decode b_M_point 19 = .ok (.imul, 1) := by decide +kernel
theorem d_M_point_20 : decode b_M_point 20 = .ok (.iload_n 2, 1) := by decide +kernel
theorem d_M_point_21 : decode b_M_point 21 = .ok (.iadd, 1) := by decide +kernel
theorem d_M_point_22 : decode b_M_point 22 = .ok (.lload 5, 2) := by decide +kernel
theorem d_M_point_24 : decode b_M_point 24 = .ok (.lastore, 1) := by decide +kernel
theorem d_M_point_25 : decode b_M_point 25 = .ok (.return_, 1) := by decide +kernel
abbrev rm_M_point : Room := { frames := 0, cells := 0, slots := 0, locals := 0 }
theorem ce_M_point : gCe y_M_point (.code y_M_point b_M_point 7 none) 7 4 false := gCe.code wd_986 wd_57 wd_985 (by decide) (by decide +kernel)
def f_M_point (g0 : gG) (a0 : Nat) (p1 : Int32) (p2 : Int32) (p3 : Int64) (p4 : Int64) (w : gW) : gX Unit := (gfA w a0 7 22).bind fun v1 => (gsJ w v1 ((8 * p1) + p2) p3).bind fun w => (gfA w a0 7 23).bind fun v4 => (gsJ w v4 ((8 * p1) + p2) p4).bind fun w => some (.inr (), w)
set_option maxHeartbeats 4000000 in
set_option maxRecDepth 100000 in
theorem m_M_point (l : Launch) (hst : l.stackTraces = false) (D : gD) (g0 : gG) (a0 : Nat) (p1 : Int32) (p2 : Int32) (p3 : Int64) (p4 : Int64) (w : gW) (r : (String ⊕ Unit) × gW) (h : f_M_point g0 a0 p1 p2 p3 p4 w = some r) : gMet l y_M_point (.code y_M_point b_M_point 7 none) rm_M_point D g0 [.ref a0, .int p1, .int p2, .long p3, .long p4] w (goV r) := by
  refine gw_ofV (by decide +kernel) (Nat.le_of_ble_eq_true rfl) ?_
  intro p e s m below meth c ls args A Q hx hb hml hown hlocks hin hnt hT hK hZ hA hret hexc hthr hI hl
  obtain ⟨H, hH⟩ : ∃ H, H = s.heap := ⟨_, rfl⟩
  rw [← hH] at hI ⊢
  obtain ⟨locs, hlocs⟩ : ∃ z : List Loc, z = [] := ⟨_, rfl⟩
  rw [← hlocs] at hI ⊢
  have hl : lv_has ls 7 [(0, .ref a0), (1, .int p1), (2, .int p2), (3, .long p3), (5, .long p4)] := hl
  unfold f_M_point at h
  refine lv_aload_n hx hb d_M_point_0 rfl (lv_at hl 0 rfl) ?_
  obtain ⟨v1, e2, h⟩ := gb h
  refine gw_getA hx hb hT hown hK hI (ci := 7) rfl i_7 22 (by decide) wd_808 (fun _ h9 => h9) e2 d_M_point_1 ?_
  refine lv_bipush (v := 8) hx hb d_M_point_4 (by decide) ?_
  refine lv_iload_n hx hb d_M_point_6 rfl (lv_at hl 1 rfl) ?_
  refine lv_imul hx hb d_M_point_7 ?_
  refine lv_iload_n hx hb d_M_point_8 rfl (lv_at hl 2 rfl) ?_
  refine lv_iadd hx hb d_M_point_9 ?_
  refine lv_lload_n hx hb d_M_point_10 rfl (lv_at hl 3 rfl) ?_
  obtain ⟨w, e3, h⟩ := gb h
  refine gw_astJ hx hb hK hI e3 d_M_point_11 (fun H locs hI => ?_)
  refine lv_aload_n hx hb d_M_point_12 rfl (lv_at hl 0 rfl) ?_
  obtain ⟨v4, e5, h⟩ := gb h
  refine gw_getA hx hb hT hown hK hI (ci := 7) rfl i_7 23 (by decide) wd_809 (fun _ h9 => h9) e5 d_M_point_13 ?_
  refine lv_bipush (v := 8) hx hb d_M_point_16 (by decide) ?_
  refine lv_iload_n hx hb d_M_point_18 rfl (lv_at hl 1 rfl) ?_
  refine lv_imul hx hb d_M_point_19 ?_
  refine lv_iload_n hx hb d_M_point_20 rfl (lv_at hl 2 rfl) ?_
  refine lv_iadd hx hb d_M_point_21 ?_
  refine lv_lload hx hb d_M_point_22 (lv_at hl 4 rfl) ?_
  obtain ⟨w, e6, h⟩ := gb h
  refine gw_astJ hx hb hK hI e6 d_M_point_24 (fun H locs hI => ?_)
  exact W.widen (show 0 ≤ 0 by omega) (show 0 ≤ 0 by omega) (hret _ _ (Option.some.inj h).symm _ _ _ _ d_M_point_25 hI)

abbrev b_M_spot : ByteArray := prog_9_method_31_code
def y_M_spot : MethodName := ⟨"BodySolidsModel", "spot", "(IIIJJ)V"⟩
theorem d_M_spot_0 : decode b_M_spot 0 = .ok (.aload_n 0, 1) := by decide +kernel
theorem d_M_spot_1 : decode b_M_spot 1 = .ok (.iload_n 1, 1) := by decide +kernel
theorem d_M_spot_2 : decode b_M_spot 2 = .ok (.iload_n 2, 1) := by decide +kernel
theorem d_M_spot_3 : decode b_M_spot 3 = .ok (.aload_n 0, 1) := by decide +kernel
theorem d_M_spot_4 : decode b_M_spot 4 = .ok (.iload_n 3, 1) := by decide +kernel
theorem d_M_spot_5 : decode b_M_spot 5 = .ok (.lload 4, 2) := by decide +kernel
theorem d_M_spot_7 : decode b_M_spot 7 = .ok (.lload 6, 2) := by decide +kernel
theorem d_M_spot_9 : decode b_M_spot 9 = .ok (.invokevirtual 153, 3) := by decide +kernel
theorem d_M_spot_12 : decode b_M_spot 12 = .ok (.aload_n 0, 1) := by decide +kernel
theorem d_M_spot_13 : decode b_M_spot 13 = .ok (.iload_n 3, 1) := by decide +kernel
theorem d_M_spot_14 : decode b_M_spot 14 = .ok (.lload 4, 2) := by decide +kernel
theorem d_M_spot_16 : decode b_M_spot 16 = .ok (.lload 6, 2) := by decide +kernel
theorem d_M_spot_18 : decode b_M_spot 18 = .ok (.invokevirtual 157, 3) := by decide +kernel
theorem d_M_spot_21 : decode b_M_spot 21 = .ok (.invokevirtual 160, 3) := by decide +kernel
theorem d_M_spot_24 : decode b_M_spot 24 = .ok (.return_, 1) := by decide +kernel
abbrev rm_M_spot : Room := { frames := 1, cells := 0, slots := 0, locals := 27 }
theorem ce_M_spot : gCe y_M_spot (.code y_M_spot b_M_spot 8 none) 8 5 false := gCe.code wd_974 wd_57 wd_973 (by decide) (by decide +kernel)
def f_M_spot (g0 : gG) (a0 : Nat) (p1 : Int32) (p2 : Int32) (p3 : Int32) (p4 : Int64) (p5 : Int64) (w : gW) : gX Unit := (gck w a0 7).bind fun _ => gbind (f_M_xOf g0 a0 p3 p4 p5 w) fun v5 w => (gck w a0 7).bind fun _ => gbind (f_M_yOf g0 a0 p3 p4 p5 w) fun v10 w => (gck w a0 7).bind fun _ => gbind (f_M_point g0 a0 p1 p2 v5 v10 w) fun v15 w => some (.inr (), w)
set_option maxHeartbeats 4000000 in
set_option maxRecDepth 100000 in
theorem m_M_spot (l : Launch) (hst : l.stackTraces = false) (D : gD) (g0 : gG) (a0 : Nat) (p1 : Int32) (p2 : Int32) (p3 : Int32) (p4 : Int64) (p5 : Int64) (w : gW) (r : (String ⊕ Unit) × gW) (h : f_M_spot g0 a0 p1 p2 p3 p4 p5 w = some r) : gMet l y_M_spot (.code y_M_spot b_M_spot 8 none) rm_M_spot D g0 [.ref a0, .int p1, .int p2, .int p3, .long p4, .long p5] w (goV r) := by
  refine gw_ofV (by decide +kernel) (Nat.le_of_ble_eq_true rfl) ?_
  intro p e s m below meth c ls args A Q hx hb hml hown hlocks hin hnt hT hK hZ hA hret hexc hthr hI hl
  obtain ⟨H, hH⟩ : ∃ H, H = s.heap := ⟨_, rfl⟩
  rw [← hH] at hI ⊢
  obtain ⟨locs, hlocs⟩ : ∃ z : List Loc, z = [] := ⟨_, rfl⟩
  rw [← hlocs] at hI ⊢
  have hl : lv_has ls 8 [(0, .ref a0), (1, .int p1), (2, .int p2), (3, .int p3), (4, .long p4), (6, .long p5)] := hl
  unfold f_M_spot at h
  refine lv_aload_n hx hb d_M_spot_0 rfl (lv_at hl 0 rfl) ?_
  refine lv_iload_n hx hb d_M_spot_1 rfl (lv_at hl 1 rfl) ?_
  refine lv_iload_n hx hb d_M_spot_2 rfl (lv_at hl 2 rfl) ?_
  refine lv_aload_n hx hb d_M_spot_3 rfl (lv_at hl 0 rfl) ?_
  refine lv_iload_n hx hb d_M_spot_4 rfl (lv_at hl 3 rfl) ?_
  refine lv_lload hx hb d_M_spot_5 (lv_at hl 4 rfl) ?_
  refine lv_lload hx hb d_M_spot_7 (lv_at hl 5 rfl) ?_
  obtain ⟨q3, e4, h⟩ := gb h
  obtain ⟨u1, e2⟩ := gsome h
  refine gw_callJ e2 h (gw_runV (As := [.int p3, .long p4, .long p5]) (rest := [.int p2, .int p1, .ref a0]) hx hb hml hown hT hK hZ hA hI (ci := 7) rfl e4 (m_M_xOf l hst D g0 a0 p3 p4 p5 w u1 e2) ce_M_xOf wd_975 wd_28 ⟨by decide, by decide⟩ rfl rfl hl.1 rfl (lv_room (Nat.le_of_ble_eq_true rfl)) d_M_spot_9 ⟨(show 0 + 0 ≤ 0 by omega), (show 0 + 0 ≤ 0 by omega)⟩) hI hA hexc (show 0 + 0 ≤ 0 by omega) (show 0 + 0 ≤ 0 by omega) (fun v5 w H locs h hI => ?_)
  refine lv_aload_n hx hb d_M_spot_12 rfl (lv_at hl 0 rfl) ?_
  refine lv_iload_n hx hb d_M_spot_13 rfl (lv_at hl 3 rfl) ?_
  refine lv_lload hx hb d_M_spot_14 (lv_at hl 4 rfl) ?_
  refine lv_lload hx hb d_M_spot_16 (lv_at hl 5 rfl) ?_
  obtain ⟨q8, e9, h⟩ := gb h
  obtain ⟨u6, e7⟩ := gsome h
  refine gw_callJ e7 h (gw_runV (As := [.int p3, .long p4, .long p5]) (rest := [.long v5, .int p2, .int p1, .ref a0]) hx hb hml hown hT hK hZ hA hI (ci := 7) rfl e9 (m_M_yOf l hst D g0 a0 p3 p4 p5 w u6 e7) ce_M_yOf wd_979 wd_29 ⟨by decide, by decide⟩ rfl rfl hl.1 rfl (lv_room (Nat.le_of_ble_eq_true rfl)) d_M_spot_18 ⟨(show 0 + 0 ≤ 0 by omega), (show 0 + 0 ≤ 0 by omega)⟩) hI hA hexc (show 0 + 0 ≤ 0 by omega) (show 0 + 0 ≤ 0 by omega) (fun v10 w H locs h hI => ?_)
  obtain ⟨q13, e14, h⟩ := gb h
  obtain ⟨u11, e12⟩ := gsome h
  refine gw_callV e12 h (gw_runV (As := [.int p1, .int p2, .long v5, .long v10]) (rest := []) hx hb hml hown hT hK hZ hA hI (ci := 7) rfl e14 (m_M_point l hst D g0 a0 p1 p2 v5 v10 w u11 e12) ce_M_point wd_983 wd_30 ⟨by decide, by decide⟩ rfl rfl hl.1 rfl (lv_room (Nat.le_of_ble_eq_true rfl)) d_M_spot_21 ⟨(show 0 + 0 ≤ 0 by omega), (show 0 + 0 ≤ 0 by omega)⟩) hI hA hexc (show 0 + 0 ≤ 0 by omega) (show 0 + 0 ≤ 0 by omega) (fun v15 w H locs h hI => ?_)
  exact W.widen (show 0 ≤ 0 by omega) (show 0 ≤ 0 by omega) (hret _ _ (Option.some.inj h).symm _ _ _ _ d_M_spot_24 hI)

abbrev b_M_zOf : ByteArray := prog_9_method_28_code
def y_M_zOf : MethodName := ⟨"BodySolidsModel", "zOf", "(IJ)J"⟩
theorem d_M_zOf_0 : decode b_M_zOf 0 = .ok (.aload_n 0, 1) := by decide +kernel
theorem d_M_zOf_1 : decode b_M_zOf 1 = .ok (.getfield 47, 3) := by decide +kernel
theorem d_M_zOf_4 : decode b_M_zOf 4 = .ok (.iload_n 1, 1) := by decide +kernel
theorem d_M_zOf_5 : decode b_M_zOf 5 = .ok (.iaload, 1) := by decide +kernel
theorem d_M_zOf_6 : decode b_M_zOf 6 = .ok (.iconst 1, 1) := by decide +kernel
theorem d_M_zOf_7 : decode b_M_zOf 7 = .ok (.if_icmp .ne 14, 3) := by decide +kernel
theorem d_M_zOf_10 : decode b_M_zOf 10 = .ok (.lconst 0, 1) := by decide +kernel
theorem d_M_zOf_11 : decode b_M_zOf 11 = .ok (.aload_n 0, 1) := by decide +kernel
theorem d_M_zOf_12 : decode b_M_zOf 12 = .ok (.getfield 76, 3) := by decide +kernel
theorem d_M_zOf_15 : decode b_M_zOf 15 = .ok (.lsub, 1) := by decide +kernel
theorem d_M_zOf_16 : decode b_M_zOf 16 = .ok (.lload_n 2, 1) := by decide +kernel
theorem d_M_zOf_17 : decode b_M_zOf 17 = .ok (.lsub, 1) := by decide +kernel
theorem d_M_zOf_18 : decode b_M_zOf 18 = .ok (.goto 4, 3) := by decide +kernel
theorem d_M_zOf_21 : decode b_M_zOf 21 = .ok (.lload_n 2, 1) := by decide +kernel
theorem d_M_zOf_22 : decode b_M_zOf 22 = .ok (.lreturn, 1) := by decide +kernel
abbrev rm_M_zOf : Room := { frames := 0, cells := 0, slots := 0, locals := 0 }
theorem ce_M_zOf : gCe y_M_zOf (.code y_M_zOf b_M_zOf 4 (some .long)) 4 2 false := gCe.code wd_990 wd_57 wd_989 (by decide) (by decide +kernel)
def f_M_zOf (g0 : gG) (a0 : Nat) (p1 : Int32) (p2 : Int64) (w : gW) : gX Int64 := (gfA w a0 7 17).bind fun v1 => (gaI w v1 p1).bind fun v3 => gjoin (fun K22 => if v3 = 1 then ((gfJ w a0 7 1).bind fun v7 => K22 ((0 - v7) - p2) w) else (K22 p2 w)) (fun (y5 : Int64) (w : gW) => some (.inr y5, w))
set_option maxHeartbeats 4000000 in
set_option maxRecDepth 100000 in
theorem m_M_zOf (l : Launch) (hst : l.stackTraces = false) (D : gD) (g0 : gG) (a0 : Nat) (p1 : Int32) (p2 : Int64) (w : gW) (r : (String ⊕ Int64) × gW) (h : f_M_zOf g0 a0 p1 p2 w = some r) : gMet l y_M_zOf (.code y_M_zOf b_M_zOf 4 (some .long)) rm_M_zOf D g0 [.ref a0, .int p1, .long p2] w (goJ r) := by
  refine gw_ofJ (by decide +kernel) (Nat.le_of_ble_eq_true rfl) ?_
  intro p e s m below meth c ls args A Q hx hb hml hown hlocks hin hnt hT hK hZ hA hret hexc hthr hI hl
  obtain ⟨H, hH⟩ : ∃ H, H = s.heap := ⟨_, rfl⟩
  rw [← hH] at hI ⊢
  obtain ⟨locs, hlocs⟩ : ∃ z : List Loc, z = [] := ⟨_, rfl⟩
  rw [← hlocs] at hI ⊢
  have hl : lv_has ls 4 [(0, .ref a0), (1, .int p1), (2, .long p2)] := hl
  unfold f_M_zOf at h
  refine lv_aload_n hx hb d_M_zOf_0 rfl (lv_at hl 0 rfl) ?_
  obtain ⟨v1, e2, h⟩ := gb h
  refine gw_getA hx hb hT hown hK hI (ci := 7) rfl i_7 17 (by decide) wd_803 (fun _ h9 => h9) e2 d_M_zOf_1 ?_
  refine lv_iload_n hx hb d_M_zOf_4 rfl (lv_at hl 1 rfl) ?_
  obtain ⟨v3, e4, h⟩ := gb h
  refine gw_aldI hx hb hK hI e4 d_M_zOf_5 ?_
  refine lv_iconst (v := 1) hx hb d_M_zOf_6 (by decide) ?_
  obtain ⟨K22, eK22, h⟩ := gj h
  have hK22 : ∀ (y5 : Int64) (w : gW) (H : Heap) (locs : List Loc) (ls : Array Slot), K22 y5 w = some r → gI D s A w H locs → lv_has ls 4 [] → W p l e rm_M_zOf s m args below meth c H locs 0 0 Q (F0 m 22 ls [.long y5]) := by
    intro y5 w H locs ls h hI hl
    have h := gk2 eK22 h
    exact W.widen (show 0 ≤ 0 by omega) (show 0 ≤ 0 by omega) (hret _ _ (Option.some.inj h).symm _ _ _ _ d_M_zOf_22 hI)
  refine lv_icmp_ne (tgt := 21) hx hb d_M_zOf_7 (by decide) (fun c6 => ?_) (fun c6 => ?_)
  · skip
    have h := gie c6 h
    refine lv_lload_n hx hb d_M_zOf_21 rfl (lv_at hl 2 rfl) ?_
    exact hK22 _ w H locs ls h hI (lv_sub hl [] rfl)
  · skip
    have h := git c6 h
    refine lv_lconst (v := 0) hx hb d_M_zOf_10 (by decide) ?_
    refine lv_aload_n hx hb d_M_zOf_11 rfl (lv_at hl 0 rfl) ?_
    obtain ⟨v7, e8, h⟩ := gb h
    refine gw_getJ hx hb hT hown hK hI (ci := 7) rfl i_7 1 (by decide) wd_787 (fun _ h9 => h9) e8 d_M_zOf_12 ?_
    refine lv_lsub hx hb d_M_zOf_15 ?_
    refine lv_lload_n hx hb d_M_zOf_16 rfl (lv_at hl 2 rfl) ?_
    refine lv_lsub hx hb d_M_zOf_17 ?_
    refine lv_goto (tgt := 22) hx hb d_M_zOf_18 (by decide) ?_
    exact hK22 _ w H locs ls h hI (lv_sub hl [] rfl)

abbrev b_M_heights : ByteArray := prog_9_method_29_code
def y_M_heights : MethodName := ⟨"BodySolidsModel", "heights", "(IJJ)V"⟩
theorem d_M_heights_0 : decode b_M_heights 0 = .ok (.aload_n 0, 1) := by decide +kernel
theorem d_M_heights_1 : decode b_M_heights 1 = .ok (.getfield 68, 3) := by decide +kernel
theorem d_M_heights_4 : decode b_M_heights 4 = .ok (.iload_n 1, 1) := by decide +kernel
theorem d_M_heights_5 : decode b_M_heights 5 = .ok (.lload_n 2, 1) := by decide +kernel
theorem d_M_heights_6 : decode b_M_heights 6 = .ok (.lload 4, 2) := by decide +kernel
theorem d_M_heights_8 : decode b_M_heights 8 = .ok (.lcmp, 1) := by decide +kernel
theorem d_M_heights_9 : decode b_M_heights 9 = .ok (.ifCond .ge 7, 3) := by decide +kernel
theorem d_M_heights_12 : decode b_M_heights 12 = .ok (.lload_n 2, 1) := by decide +kernel
theorem d_M_heights_13 : decode b_M_heights 13 = .ok (.goto 5, 3) := by decide +kernel
theorem d_M_heights_16 : decode b_M_heights 16 = .ok (.lload 4, 2) := by decide +kernel
theorem d_M_heights_18 : decode b_M_heights 18 = .ok (.lastore, 1) := by decide +kernel
theorem d_M_heights_19 : decode b_M_heights 19 = .ok (.aload_n 0, 1) := by decide +kernel
theorem d_M_heights_20 : decode b_M_heights 20 = .ok (.getfield 71, 3) := by decide +kernel
theorem d_M_heights_23 : decode b_M_heights 23 = .ok (.iload_n 1, 1) := by decide +kernel
theorem d_M_heights_24 : decode b_M_heights 24 = .ok (.lload_n 2, 1) := by decide +kernel
theorem d_M_heights_25 : decode b_M_heights 25 = .ok (.lload 4, 2) := by decide +kernel
theorem d_M_heights_27 : decode b_M_heights 27 = .ok (.lcmp, 1) := by decide +kernel
theorem d_M_heights_28 : decode b_M_heights 28 = .ok (.ifCond .ge 8, 3) := by decide +kernel
theorem d_M_heights_31 : decode b_M_heights 31 = .ok (.lload 4, 2) := by decide +kernel
theorem d_M_heights_33 : decode b_M_heights 33 = .ok (.goto 4, 3) := by decide +kernel
theorem d_M_heights_36 : decode b_M_heights 36 = .ok (.lload_n 2, 1) := by decide +kernel
theorem d_M_heights_37 : decode b_M_heights 37 = .ok (.lastore, 1) := by decide +kernel
theorem d_M_heights_38 : decode b_M_heights 38 = .ok (.return_, 1) := by decide +kernel
abbrev rm_M_heights : Room := { frames := 0, cells := 0, slots := 0, locals := 0 }
theorem ce_M_heights : gCe y_M_heights (.code y_M_heights b_M_heights 6 none) 6 3 false := gCe.code wd_995 wd_57 wd_994 (by decide) (by decide +kernel)
def f_M_heights (g0 : gG) (a0 : Nat) (p1 : Int32) (p2 : Int64) (p3 : Int64) (w : gW) : gX Unit := (gfA w a0 7 25).bind fun v1 => gjoin (fun K18 => if p3 ≤ p2 then (K18 p3 w) else (K18 p2 w)) (fun (y3 : Int64) (w : gW) => (gsJ w v1 p1 y3).bind fun w => (gfA w a0 7 26).bind fun v5 => gjoin (fun K37 => if p3 ≤ p2 then (K37 p2 w) else (K37 p3 w)) (fun (y7 : Int64) (w : gW) => (gsJ w v5 p1 y7).bind fun w => some (.inr (), w)))
set_option maxHeartbeats 4000000 in
set_option maxRecDepth 100000 in
theorem m_M_heights (l : Launch) (hst : l.stackTraces = false) (D : gD) (g0 : gG) (a0 : Nat) (p1 : Int32) (p2 : Int64) (p3 : Int64) (w : gW) (r : (String ⊕ Unit) × gW) (h : f_M_heights g0 a0 p1 p2 p3 w = some r) : gMet l y_M_heights (.code y_M_heights b_M_heights 6 none) rm_M_heights D g0 [.ref a0, .int p1, .long p2, .long p3] w (goV r) := by
  refine gw_ofV (by decide +kernel) (Nat.le_of_ble_eq_true rfl) ?_
  intro p e s m below meth c ls args A Q hx hb hml hown hlocks hin hnt hT hK hZ hA hret hexc hthr hI hl
  obtain ⟨H, hH⟩ : ∃ H, H = s.heap := ⟨_, rfl⟩
  rw [← hH] at hI ⊢
  obtain ⟨locs, hlocs⟩ : ∃ z : List Loc, z = [] := ⟨_, rfl⟩
  rw [← hlocs] at hI ⊢
  have hl : lv_has ls 6 [(0, .ref a0), (1, .int p1), (2, .long p2), (4, .long p3)] := hl
  unfold f_M_heights at h
  refine lv_aload_n hx hb d_M_heights_0 rfl (lv_at hl 0 rfl) ?_
  obtain ⟨v1, e2, h⟩ := gb h
  refine gw_getA hx hb hT hown hK hI (ci := 7) rfl i_7 25 (by decide) wd_811 (fun _ h9 => h9) e2 d_M_heights_1 ?_
  refine lv_iload_n hx hb d_M_heights_4 rfl (lv_at hl 1 rfl) ?_
  refine lv_lload_n hx hb d_M_heights_5 rfl (lv_at hl 2 rfl) ?_
  refine lv_lload hx hb d_M_heights_6 (lv_at hl 3 rfl) ?_
  refine W.lcmp hx hb d_M_heights_8 ?_
  obtain ⟨K18, eK18, h⟩ := gj h
  have hK18 : ∀ (y3 : Int64) (w : gW) (H : Heap) (locs : List Loc) (ls : Array Slot), K18 y3 w = some r → gI D s A w H locs → lv_has ls 6 [(0, .ref a0), (1, .int p1), (2, .long p2), (4, .long p3)] → W p l e rm_M_heights s m args below meth c H locs 0 0 Q (F0 m 18 ls [.long y3, .int p1, .ref v1]) := by
    intro y3 w H locs ls h hI hl
    have h := gk2 eK18 h
    obtain ⟨w, e4, h⟩ := gb h
    refine gw_astJ hx hb hK hI e4 d_M_heights_18 (fun H locs hI => ?_)
    refine lv_aload_n hx hb d_M_heights_19 rfl (lv_at hl 0 rfl) ?_
    obtain ⟨v5, e6, h⟩ := gb h
    refine gw_getA hx hb hT hown hK hI (ci := 7) rfl i_7 26 (by decide) wd_812 (fun _ h9 => h9) e6 d_M_heights_20 ?_
    refine lv_iload_n hx hb d_M_heights_23 rfl (lv_at hl 1 rfl) ?_
    refine lv_lload_n hx hb d_M_heights_24 rfl (lv_at hl 2 rfl) ?_
    refine lv_lload hx hb d_M_heights_25 (lv_at hl 3 rfl) ?_
    refine W.lcmp hx hb d_M_heights_27 ?_
    obtain ⟨K37, eK37, h⟩ := gj h
    have hK37 : ∀ (y7 : Int64) (w : gW) (H : Heap) (locs : List Loc) (ls : Array Slot), K37 y7 w = some r → gI D s A w H locs → lv_has ls 6 [] → W p l e rm_M_heights s m args below meth c H locs 0 0 Q (F0 m 37 ls [.long y7, .int p1, .ref v5]) := by
      intro y7 w H locs ls h hI hl
      have h := gk2 eK37 h
      obtain ⟨w, e8, h⟩ := gb h
      refine gw_astJ hx hb hK hI e8 d_M_heights_37 (fun H locs hI => ?_)
      exact W.widen (show 0 ≤ 0 by omega) (show 0 ≤ 0 by omega) (hret _ _ (Option.some.inj h).symm _ _ _ _ d_M_heights_38 hI)
    refine lv_if_ge (tgt := 36) hx hb d_M_heights_28 (by decide) (fun c9 => ?_) (fun c9 => ?_)
    · have c9 := (lg_cmp_ge _ _).mp c9
      have h := git c9 h
      refine lv_lload_n hx hb d_M_heights_36 rfl (lv_at hl 2 rfl) ?_
      exact hK37 _ w H locs ls h hI (lv_sub hl [] rfl)
    · have c9 := mt (lg_cmp_ge _ _).mpr c9
      have h := gie c9 h
      refine lv_lload hx hb d_M_heights_31 (lv_at hl 3 rfl) ?_
      refine lv_goto (tgt := 37) hx hb d_M_heights_33 (by decide) ?_
      exact hK37 _ w H locs ls h hI (lv_sub hl [] rfl)
  refine lv_if_ge (tgt := 16) hx hb d_M_heights_9 (by decide) (fun c10 => ?_) (fun c10 => ?_)
  · have c10 := (lg_cmp_ge _ _).mp c10
    have h := git c10 h
    refine lv_lload hx hb d_M_heights_16 (lv_at hl 3 rfl) ?_
    exact hK18 _ w H locs ls h hI (lv_sub hl [0, 1, 2, 3] rfl)
  · have c10 := mt (lg_cmp_ge _ _).mpr c10
    have h := gie c10 h
    refine lv_lload_n hx hb d_M_heights_12 rfl (lv_at hl 2 rfl) ?_
    refine lv_goto (tgt := 18) hx hb d_M_heights_13 (by decide) ?_
    exact hK18 _ w H locs ls h hI (lv_sub hl [0, 1, 2, 3] rfl)
