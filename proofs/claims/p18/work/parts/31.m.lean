abbrev b_M_of : ByteArray := prog_9_method_10_code
def y_M_of : MethodName := ⟨"BodySolidsModel", "of", "(II)J"⟩
theorem d_M_of_0 : decode b_M_of 0 = .ok (.aload_n 0, 1) := by decide +kernel
theorem d_M_of_1 : decode b_M_of 1 = .ok (.getfield 16, 3) := by decide +kernel
theorem d_M_of_4 : decode b_M_of 4 = .ok (.bipush 6, 2) := by decide +kernel
theorem d_M_of_6 : decode b_M_of 6 = .ok (.iload_n 1, 1) := by decide +kernel
theorem d_M_of_7 : decode b_M_of 7 = .ok (.imul, 1) := by decide +kernel
theorem d_M_of_8 : decode b_M_of 8 = .ok (.iload_n 2, 1) := by decide +kernel
theorem d_M_of_9 : decode b_M_of 9 = .ok (.iadd, 1) := by decide +kernel
theorem d_M_of_10 : decode b_M_of 10 = .ok (.laload, 1) := by decide +kernel
theorem d_M_of_11 : decode b_M_of 11 = .ok (.lreturn, 1) := by decide +kernel
abbrev rm_M_of : Room := { frames := 0, cells := 0, slots := 0, locals := 0 }
theorem ce_M_of : gCe y_M_of (.code y_M_of b_M_of 3 (some .long)) 3 2 false := gCe.code wd_974 wd_57 wd_973 (by decide) (by decide +kernel)
def f_M_of (g0 : gG) (a0 : Nat) (p1 : Int32) (p2 : Int32) (w : gW) : gX Int64 := (gfA w a0 7 5).bind fun v1 => (gaJ w v1 ((6 * p1) + p2)).bind fun v3 => some (.inr v3, w)
set_option maxHeartbeats 4000000 in
set_option maxRecDepth 100000 in
theorem m_M_of (l : Launch) (hst : l.stackTraces = false) (D : gD) (g0 : gG) (a0 : Nat) (p1 : Int32) (p2 : Int32) (w : gW) (r : (String ⊕ Int64) × gW) (h : f_M_of g0 a0 p1 p2 w = some r) : gMet l y_M_of (.code y_M_of b_M_of 3 (some .long)) rm_M_of D g0 [.ref a0, .int p1, .int p2] w (goJ r) := by
  refine gw_ofJ (by decide +kernel) (Nat.le_of_ble_eq_true rfl) ?_
  intro p e s m below meth c ls args A Q hx hb hml hown hlocks hin hnt hT hK hZ hA hret hexc hthr hI hl
  obtain ⟨H, hH⟩ : ∃ H, H = s.heap := ⟨_, rfl⟩
  rw [← hH] at hI ⊢
  obtain ⟨locs, hlocs⟩ : ∃ z : List Loc, z = [] := ⟨_, rfl⟩
  rw [← hlocs] at hI ⊢
  have hl : lv_has ls 3 [(0, .ref a0), (1, .int p1), (2, .int p2)] := hl
  unfold f_M_of at h
  refine lv_aload_n hx hb d_M_of_0 rfl (lv_at hl 0 rfl) ?_
  obtain ⟨v1, e2, h⟩ := gb h
  refine gw_getA hx hb hT hown hK hI (ci := 7) rfl i_7 5 (by decide) wd_791 (fun _ h9 => h9) e2 d_M_of_1 ?_
  refine lv_bipush (v := 6) hx hb d_M_of_4 (by decide) ?_
  refine lv_iload_n hx hb d_M_of_6 rfl (lv_at hl 1 rfl) ?_
  refine lv_imul hx hb d_M_of_7 ?_
  refine lv_iload_n hx hb d_M_of_8 rfl (lv_at hl 2 rfl) ?_
  refine lv_iadd hx hb d_M_of_9 ?_
  obtain ⟨v3, e4, h⟩ := gb h
  refine gw_aldJ hx hb hK hI e4 d_M_of_10 ?_
  exact W.widen (show 0 ≤ 0 by omega) (show 0 ≤ 0 by omega) (hret _ _ (Option.some.inj h).symm _ _ _ _ d_M_of_11 hI)

abbrev b_M_volume : ByteArray := prog_9_method_63_code
def y_M_volume : MethodName := ⟨"BodySolidsModel", "volume", "(I)J"⟩
theorem d_M_volume_0 : decode b_M_volume 0 = .ok (.aload_n 0, 1) := by decide +kernel
theorem d_M_volume_1 : decode b_M_volume 1 = .ok (.iload_n 1, 1) := by decide +kernel
theorem d_M_volume_2 : decode b_M_volume 2 = .ok (.iconst 5, 1) := by decide +kernel
theorem d_M_volume_3 : decode b_M_volume 3 = .ok (.invokevirtual 164, 3) := by decide +kernel
theorem d_M_volume_6 : decode b_M_volume 6 = .ok (.lstore_n 2, 1) := by decide +kernel
theorem d_M_volume_7 : decode b_M_volume 7 = .ok (.aload_n 0, 1) := by decide +kernel
theorem d_M_volume_8 : decode b_M_volume 8 = .ok (.iload_n 1, 1) := by decide +kernel
theorem d_M_volume_9 : decode b_M_volume 9 = .ok (.iconst 3, 1) := by decide +kernel
theorem d_M_volume_10 : decode b_M_volume 10 = .ok (.invokevirtual 164, 3) := by decide +kernel
theorem d_M_volume_13 : decode b_M_volume 13 = .ok (.lstore 4, 2) := by decide +kernel
theorem d_M_volume_15 : decode b_M_volume 15 = .ok (.aload_n 0, 1) := by decide +kernel
theorem d_M_volume_16 : decode b_M_volume 16 = .ok (.getfield 13, 3) := by decide +kernel
theorem d_M_volume_19 : decode b_M_volume 19 = .ok (.iload_n 1, 1) := by decide +kernel
theorem d_M_volume_20 : decode b_M_volume 20 = .ok (.iaload, 1) := by decide +kernel
theorem d_M_volume_21 : decode b_M_volume 21 = .ok (.tableswitch 83 0 3 #[31, 47, 83, 59], 31) := by decide +kernel
theorem d_M_volume_52 : decode b_M_volume 52 = .ok (.ldc2_w 283, 3) := by decide +kernel
theorem d_M_volume_55 : decode b_M_volume 55 = .ok (.lload 4, 2) := by decide +kernel
theorem d_M_volume_57 : decode b_M_volume 57 = .ok (.lmul, 1) := by decide +kernel
theorem d_M_volume_58 : decode b_M_volume 58 = .ok (.aload_n 0, 1) := by decide +kernel
theorem d_M_volume_59 : decode b_M_volume 59 = .ok (.iload_n 1, 1) := by decide +kernel
theorem d_M_volume_60 : decode b_M_volume 60 = .ok (.iconst 4, 1) := by decide +kernel
theorem d_M_volume_61 : decode b_M_volume 61 = .ok (.invokevirtual 164, 3) := by decide +kernel
theorem d_M_volume_64 : decode b_M_volume 64 = .ok (.lmul, 1) := by decide +kernel
theorem d_M_volume_65 : decode b_M_volume 65 = .ok (.lload_n 2, 1) := by decide +kernel
theorem d_M_volume_66 : decode b_M_volume 66 = .ok (.lmul, 1) := by decide +kernel
theorem d_M_volume_67 : decode b_M_volume 67 = .ok (.lreturn, 1) := by decide +kernel
theorem d_M_volume_68 : decode b_M_volume 68 = .ok (.ldc2_w 285, 3) := by decide +kernel
theorem d_M_volume_71 : decode b_M_volume 71 = .ok (.lload 4, 2) := by decide +kernel
theorem d_M_volume_73 : decode b_M_volume 73 = .ok (.lmul, 1) := by decide +kernel
theorem d_M_volume_74 : decode b_M_volume 74 = .ok (.lload 4, 2) := by decide +kernel
theorem d_M_volume_76 : decode b_M_volume 76 = .ok (.lmul, 1) := by decide +kernel
theorem d_M_volume_77 : decode b_M_volume 77 = .ok (.lload_n 2, 1) := by decide +kernel
theorem d_M_volume_78 : decode b_M_volume 78 = .ok (.lmul, 1) := by decide +kernel
theorem d_M_volume_79 : decode b_M_volume 79 = .ok (.lreturn, 1) := by decide +kernel
theorem d_M_volume_80 : decode b_M_volume 80 = .ok (.ldc2_w 285, 3) := by decide +kernel
theorem d_M_volume_83 : decode b_M_volume 83 = .ok (.lload 4, 2) := by decide +kernel
theorem d_M_volume_85 : decode b_M_volume 85 = .ok (.lmul, 1) := by decide +kernel
theorem d_M_volume_86 : decode b_M_volume 86 = .ok (.lload 4, 2) := by decide +kernel
theorem d_M_volume_88 : decode b_M_volume 88 = .ok (.lmul, 1) := by decide +kernel
theorem d_M_volume_89 : decode b_M_volume 89 = .ok (.lload_n 2, 1) := by decide +kernel
theorem d_M_volume_90 : decode b_M_volume 90 = .ok (.lconst 0, 1) := by decide +kernel
theorem d_M_volume_91 : decode b_M_volume 91 = .ok (.lcmp, 1) := by decide +kernel
theorem d_M_volume_92 : decode b_M_volume 92 = .ok (.ifCond .ge 9, 3) := by decide +kernel
theorem d_M_volume_95 : decode b_M_volume 95 = .ok (.lconst 0, 1) := by decide +kernel
theorem d_M_volume_96 : decode b_M_volume 96 = .ok (.lload_n 2, 1) := by decide +kernel
theorem d_M_volume_97 : decode b_M_volume 97 = .ok (.lsub, 1) := by decide +kernel
theorem d_M_volume_98 : decode b_M_volume 98 = .ok (.goto 4, 3) := by decide +kernel
theorem d_M_volume_101 : decode b_M_volume 101 = .ok (.lload_n 2, 1) := by decide +kernel
theorem d_M_volume_102 : decode b_M_volume 102 = .ok (.lmul, 1) := by decide +kernel
theorem d_M_volume_103 : decode b_M_volume 103 = .ok (.lreturn, 1) := by decide +kernel
theorem d_M_volume_104 : decode b_M_volume 104 = .ok (.lconst 0, 1) := by decide +kernel
theorem d_M_volume_105 : decode b_M_volume 105 = .ok (.lstore 6, 2) := by decide +kernel
theorem d_M_volume_107 : decode b_M_volume 107 = .ok (.bipush 8, 2) := by decide +kernel
theorem d_M_volume_109 : decode b_M_volume 109 = .ok (.iload_n 1, 1) := by decide +kernel
theorem d_M_volume_110 : decode b_M_volume 110 = .ok (.imul, 1) := by decide +kernel
theorem d_M_volume_111 : decode b_M_volume 111 = .ok (.istore 8, 2) := by decide +kernel
theorem d_M_volume_113 : decode b_M_volume 113 = .ok (.iload 8, 2) := by decide +kernel
theorem d_M_volume_115 : decode b_M_volume 115 = .ok (.bipush 8, 2) := by decide +kernel
theorem d_M_volume_117 : decode b_M_volume 117 = .ok (.iload_n 1, 1) := by decide +kernel
theorem d_M_volume_118 : decode b_M_volume 118 = .ok (.imul, 1) := by decide +kernel
theorem d_M_volume_119 : decode b_M_volume 119 = .ok (.aload_n 0, 1) := by decide +kernel
theorem d_M_volume_120 : decode b_M_volume 120 = .ok (.getfield 20, 3) := by decide +kernel
theorem d_M_volume_123 : decode b_M_volume 123 = .ok (.iload_n 1, 1) := by decide +kernel
theorem d_M_volume_124 : decode b_M_volume 124 = .ok (.iaload, 1) := by decide +kernel
theorem d_M_volume_125 : decode b_M_volume 125 = .ok (.iadd, 1) := by decide +kernel
theorem d_M_volume_126 : decode b_M_volume 126 = .ok (.if_icmp .ge 68, 3) := by decide +kernel
theorem d_M_volume_129 : decode b_M_volume 129 = .ok (.bipush 8, 2) := by decide +kernel
theorem d_M_volume_131 : decode b_M_volume 131 = .ok (.iload_n 1, 1) := by decide +kernel
theorem d_M_volume_132 : decode b_M_volume 132 = .ok (.imul, 1) := by decide +kernel
theorem d_M_volume_133 : decode b_M_volume 133 = .ok (.iload 8, 2) := by decide +kernel
theorem d_M_volume_135 : decode b_M_volume 135 = .ok (.bipush 8, 2) := by decide +kernel
theorem d_M_volume_137 : decode b_M_volume 137 = .ok (.iload_n 1, 1) := by decide +kernel
theorem d_M_volume_138 : decode b_M_volume 138 = .ok (.imul, 1) := by decide +kernel
theorem d_M_volume_139 : decode b_M_volume 139 = .ok (.isub, 1) := by decide +kernel
theorem d_M_volume_140 : decode b_M_volume 140 = .ok (.iconst 1, 1) := by decide +kernel
theorem d_M_volume_141 : decode b_M_volume 141 = .ok (.iadd, 1) := by decide +kernel
theorem d_M_volume_142 : decode b_M_volume 142 = .ok (.aload_n 0, 1) := by decide +kernel
theorem d_M_volume_143 : decode b_M_volume 143 = .ok (.getfield 20, 3) := by decide +kernel
theorem d_M_volume_146 : decode b_M_volume 146 = .ok (.iload_n 1, 1) := by decide +kernel
theorem d_M_volume_147 : decode b_M_volume 147 = .ok (.iaload, 1) := by decide +kernel
theorem d_M_volume_148 : decode b_M_volume 148 = .ok (.irem, 1) := by decide +kernel
theorem d_M_volume_149 : decode b_M_volume 149 = .ok (.iadd, 1) := by decide +kernel
theorem d_M_volume_150 : decode b_M_volume 150 = .ok (.istore 9, 2) := by decide +kernel
theorem d_M_volume_152 : decode b_M_volume 152 = .ok (.lload 6, 2) := by decide +kernel
theorem d_M_volume_154 : decode b_M_volume 154 = .ok (.aload_n 0, 1) := by decide +kernel
theorem d_M_volume_155 : decode b_M_volume 155 = .ok (.getfield 23, 3) := by decide +kernel
theorem d_M_volume_158 : decode b_M_volume 158 = .ok (.iload 8, 2) := by decide +kernel
theorem d_M_volume_160 : decode b_M_volume 160 = .ok (.laload, 1) := by decide +kernel
theorem d_M_volume_161 : decode b_M_volume 161 = .ok (.aload_n 0, 1) := by decide +kernel
theorem d_M_volume_162 : decode b_M_volume 162 = .ok (.getfield 26, 3) := by decide +kernel
theorem d_M_volume_165 : decode b_M_volume 165 = .ok (.iload 9, 2) := by decide +kernel
theorem d_M_volume_167 : decode b_M_volume 167 = .ok (.laload, 1) := by decide +kernel
theorem d_M_volume_168 : decode b_M_volume 168 = .ok (.lmul, 1) := by decide +kernel
theorem d_M_volume_169 : decode b_M_volume 169 = .ok (.aload_n 0, 1) := by decide +kernel
theorem d_M_volume_170 : decode b_M_volume 170 = .ok (.getfield 26, 3) := by decide +kernel
theorem d_M_volume_173 : decode b_M_volume 173 = .ok (.iload 8, 2) := by decide +kernel
theorem d_M_volume_175 : decode b_M_volume 175 = .ok (.laload, 1) := by decide +kernel
theorem d_M_volume_176 : decode b_M_volume 176 = .ok (.aload_n 0, 1) := by decide +kernel
theorem d_M_volume_177 : decode b_M_volume 177 = .ok (.getfield 23, 3) := by decide +kernel
theorem d_M_volume_180 : decode b_M_volume 180 = .ok (.iload 9, 2) := by decide +kernel
theorem d_M_volume_182 : decode b_M_volume 182 = .ok (.laload, 1) := by decide +kernel
theorem d_M_volume_183 : decode b_M_volume 183 = .ok (.lmul, 1) := by decide +kernel
theorem d_M_volume_184 : decode b_M_volume 184 = .ok (.lsub, 1) := by decide +kernel
theorem d_M_volume_185 : decode b_M_volume 185 = .ok (.ladd, 1) := by decide +kernel
theorem d_M_volume_186 : decode b_M_volume 186 = .ok (.lstore 6, 2) := by decide +kernel
theorem d_M_volume_188 : decode b_M_volume 188 = .ok (.iinc 8 1, 3) := by decide +kernel
theorem d_M_volume_191 : decode b_M_volume 191 = .ok (.goto (-78), 3) := by decide +kernel
theorem d_M_volume_194 : decode b_M_volume 194 = .ok (.ldc2_w 287, 3) := by decide +kernel
theorem d_M_volume_197 : decode b_M_volume 197 = .ok (.lload 6, 2) := by decide +kernel
theorem d_M_volume_199 : decode b_M_volume 199 = .ok (.lmul, 1) := by decide +kernel
theorem d_M_volume_200 : decode b_M_volume 200 = .ok (.lload_n 2, 1) := by decide +kernel
theorem d_M_volume_201 : decode b_M_volume 201 = .ok (.lmul, 1) := by decide +kernel
theorem d_M_volume_202 : decode b_M_volume 202 = .ok (.lreturn, 1) := by decide +kernel
abbrev rm_M_volume : Room := { frames := 1, cells := 0, slots := 0, locals := 22 }
theorem ce_M_volume : gCe y_M_volume (.code y_M_volume b_M_volume 10 (some .long)) 10 1 false := gCe.code wd_1117 wd_57 wd_1116 (by decide) (by decide +kernel)
def f_M_volume_L113 (g0 : gG) (c0 : Nat) (c1 : Int32) (c2 : Int64) (K194 : Int64 → gW → gX Int64) : Nat → Int64 → Int32 → gW → gX Int64
  | 0, _, _, _ => none
  | n + 1, z6, z8, w => (gfA w c0 7 6).bind fun v24 => (gaI w v24 c1).bind fun v26 => if ((8 * c1) + v26) ≤ z8 then (K194 z6 w) else ((gfA w c0 7 6).bind fun v29 => (gaI w v29 c1).bind fun v31 => gguard (¬ v31 = 0) ((gfA w c0 7 7).bind fun v34 => (gaJ w v34 z8).bind fun v36 => (gfA w c0 7 8).bind fun v38 => (gaJ w v38 ((8 * c1) + (((z8 - (8 * c1)) + 1) - ((z8 - (8 * c1)) + 1) / v31 * v31))).bind fun v40 => (gfA w c0 7 8).bind fun v42 => (gaJ w v42 z8).bind fun v44 => (gfA w c0 7 7).bind fun v46 => (gaJ w v46 ((8 * c1) + (((z8 - (8 * c1)) + 1) - ((z8 - (8 * c1)) + 1) / v31 * v31))).bind fun v48 => f_M_volume_L113 g0 c0 c1 c2 K194 n (z6 + ((v36 * v40) - (v44 * v48))) (z8 + 1) w))
def f_M_volume (g0 : gG) (a0 : Nat) (p1 : Int32) (w : gW) : gX Int64 := (gck w a0 7).bind fun _ => gbind (f_M_of g0 a0 p1 5 w) fun v5 w => (gck w a0 7).bind fun _ => gbind (f_M_of g0 a0 p1 3 w) fun v10 w => (gfA w a0 7 4).bind fun v11 => (gaI w v11 p1).bind fun v13 => if v13 = 0 then ((gck w a0 7).bind fun _ => gbind (f_M_of g0 a0 p1 4 w) fun v20 w => some (.inr (((226 * v10) * v20) * v5), w)) else (if v13 = 1 then (some (.inr (((710 * v10) * v10) * v5), w)) else (if v13 = 2 then (gjoin (fun K194 => f_M_volume_L113 g0 a0 p1 v5 K194 64 0 (8 * p1) w) (fun (x23 : Int64) (w : gW) => some (.inr ((113 * x23) * v5), w))) else (if v13 = 3 then (gjoin (fun K102 => if 0 ≤ v5 then (K102 v5 w) else (K102 (0 - v5) w)) (fun (y53 : Int64) (w : gW) => some (.inr (((710 * v10) * v10) * y53), w))) else (gjoin (fun K194 => f_M_volume_L113 g0 a0 p1 v5 K194 64 0 (8 * p1) w) (fun (x55 : Int64) (w : gW) => some (.inr ((113 * x55) * v5), w))))))
set_option maxHeartbeats 4000000 in
set_option maxRecDepth 100000 in
theorem m_M_volume (l : Launch) (hst : l.stackTraces = false) (D : gD) (g0 : gG) (a0 : Nat) (p1 : Int32) (w : gW) (r : (String ⊕ Int64) × gW) (h : f_M_volume g0 a0 p1 w = some r) : gMet l y_M_volume (.code y_M_volume b_M_volume 10 (some .long)) rm_M_volume D g0 [.ref a0, .int p1] w (goJ r) := by
  refine gw_ofJ (by decide +kernel) (Nat.le_of_ble_eq_true rfl) ?_
  intro p e s m below meth c ls args A Q hx hb hml hown hlocks hin hnt hT hK hZ hA hret hexc hthr hI hl
  obtain ⟨H, hH⟩ : ∃ H, H = s.heap := ⟨_, rfl⟩
  rw [← hH] at hI ⊢
  obtain ⟨locs, hlocs⟩ : ∃ z : List Loc, z = [] := ⟨_, rfl⟩
  rw [← hlocs] at hI ⊢
  have hl : lv_has ls 10 [(0, .ref a0), (1, .int p1)] := hl
  unfold f_M_volume at h
  refine lv_aload_n hx hb d_M_volume_0 rfl (lv_at hl 0 rfl) ?_
  refine lv_iload_n hx hb d_M_volume_1 rfl (lv_at hl 1 rfl) ?_
  refine lv_iconst (v := 5) hx hb d_M_volume_2 (by decide) ?_
  obtain ⟨q3, e4, h⟩ := gb h
  obtain ⟨u1, e2⟩ := gsome h
  refine gw_callJ e2 h (gw_runV (As := [.int p1, .int 5]) (rest := []) hx hb hml hown hT hK hZ hA hI (ci := 7) rfl e4 (m_M_of l hst D g0 a0 p1 5 w u1 e2) ce_M_of wd_971 wd_26 ⟨by decide, by decide⟩ rfl rfl hl.1 rfl (lv_room (Nat.le_of_ble_eq_true rfl)) d_M_volume_3 ⟨(show 0 + 0 ≤ 0 by omega), (show 0 + 0 ≤ 0 by omega)⟩) hI hA hexc (show 0 + 0 ≤ 0 by omega) (show 0 + 0 ≤ 0 by omega) (fun v5 w H locs h hI => ?_)
  refine lv_lstore_n (lv' := [(2, .long v5), (0, .ref a0), (1, .int p1)]) hx hb d_M_volume_6 rfl hl (by decide) rfl (fun ls hl => ?_)
  refine lv_aload_n hx hb d_M_volume_7 rfl (lv_at hl 1 rfl) ?_
  refine lv_iload_n hx hb d_M_volume_8 rfl (lv_at hl 2 rfl) ?_
  refine lv_iconst (v := 3) hx hb d_M_volume_9 (by decide) ?_
  obtain ⟨q8, e9, h⟩ := gb h
  obtain ⟨u6, e7⟩ := gsome h
  refine gw_callJ e7 h (gw_runV (As := [.int p1, .int 3]) (rest := []) hx hb hml hown hT hK hZ hA hI (ci := 7) rfl e9 (m_M_of l hst D g0 a0 p1 3 w u6 e7) ce_M_of wd_971 wd_26 ⟨by decide, by decide⟩ rfl rfl hl.1 rfl (lv_room (Nat.le_of_ble_eq_true rfl)) d_M_volume_10 ⟨(show 0 + 0 ≤ 0 by omega), (show 0 + 0 ≤ 0 by omega)⟩) hI hA hexc (show 0 + 0 ≤ 0 by omega) (show 0 + 0 ≤ 0 by omega) (fun v10 w H locs h hI => ?_)
  refine lv_lstore (lv' := [(4, .long v10), (2, .long v5), (0, .ref a0), (1, .int p1)]) hx hb d_M_volume_13 hl (by decide) rfl (fun ls hl => ?_)
  refine lv_aload_n hx hb d_M_volume_15 rfl (lv_at hl 2 rfl) ?_
  obtain ⟨v11, e12, h⟩ := gb h
  refine gw_getA hx hb hT hown hK hI (ci := 7) rfl i_7 4 (by decide) wd_790 (fun _ h9 => h9) e12 d_M_volume_16 ?_
  refine lv_iload_n hx hb d_M_volume_19 rfl (lv_at hl 3 rfl) ?_
  obtain ⟨v13, e14, h⟩ := gb h
  refine gw_aldI hx hb hK hI e14 d_M_volume_20 ?_
  rcases Decidable.em (v13 = 0) with c15 | c15
  · have h := git c15 h
    refine lv_tableIn (off := 31) (tgt := 52) hx hb d_M_volume_21 (by rw [c15]; decide) (by rw [c15]; decide) (by rw [c15]; decide) (by decide) ?_
    refine lv_ldc2 (v := 226) hx hb hown (hT _ wd_1118 args) d_M_volume_52 ?_
    refine lv_lload hx hb d_M_volume_55 (lv_at hl 0 rfl) ?_
    refine lv_lmul hx hb d_M_volume_57 ?_
    refine lv_aload_n hx hb d_M_volume_58 rfl (lv_at hl 2 rfl) ?_
    refine lv_iload_n hx hb d_M_volume_59 rfl (lv_at hl 3 rfl) ?_
    refine lv_iconst (v := 4) hx hb d_M_volume_60 (by decide) ?_
    obtain ⟨q18, e19, h⟩ := gb h
    obtain ⟨u16, e17⟩ := gsome h
    refine gw_callJ e17 h (gw_runV (As := [.int p1, .int 4]) (rest := [.long (226 * v10)]) hx hb hml hown hT hK hZ hA hI (ci := 7) rfl e19 (m_M_of l hst D g0 a0 p1 4 w u16 e17) ce_M_of wd_971 wd_26 ⟨by decide, by decide⟩ rfl rfl hl.1 rfl (lv_room (Nat.le_of_ble_eq_true rfl)) d_M_volume_61 ⟨(show 0 + 0 ≤ 0 by omega), (show 0 + 0 ≤ 0 by omega)⟩) hI hA hexc (show 0 + 0 ≤ 0 by omega) (show 0 + 0 ≤ 0 by omega) (fun v20 w H locs h hI => ?_)
    refine lv_lmul hx hb d_M_volume_64 ?_
    refine lv_lload_n hx hb d_M_volume_65 rfl (lv_at hl 1 rfl) ?_
    refine lv_lmul hx hb d_M_volume_66 ?_
    exact W.widen (show 0 ≤ 0 by omega) (show 0 ≤ 0 by omega) (hret _ _ (Option.some.inj h).symm _ _ _ _ d_M_volume_67 hI)
  have h := gie c15 h
  rcases Decidable.em (v13 = 1) with c21 | c21
  · have h := git c21 h
    refine lv_tableIn (off := 47) (tgt := 68) hx hb d_M_volume_21 (by rw [c21]; decide) (by rw [c21]; decide) (by rw [c21]; decide) (by decide) ?_
    refine lv_ldc2 (v := 710) hx hb hown (hT _ wd_1119 args) d_M_volume_68 ?_
    refine lv_lload hx hb d_M_volume_71 (lv_at hl 0 rfl) ?_
    refine lv_lmul hx hb d_M_volume_73 ?_
    refine lv_lload hx hb d_M_volume_74 (lv_at hl 0 rfl) ?_
    refine lv_lmul hx hb d_M_volume_76 ?_
    refine lv_lload_n hx hb d_M_volume_77 rfl (lv_at hl 1 rfl) ?_
    refine lv_lmul hx hb d_M_volume_78 ?_
    exact W.widen (show 0 ≤ 0 by omega) (show 0 ≤ 0 by omega) (hret _ _ (Option.some.inj h).symm _ _ _ _ d_M_volume_79 hI)
  have h := gie c21 h
  rcases Decidable.em (v13 = 2) with c22 | c22
  · have h := git c22 h
    refine lv_tableIn (off := 83) (tgt := 104) hx hb d_M_volume_21 (by rw [c22]; decide) (by rw [c22]; decide) (by rw [c22]; decide) (by decide) ?_
    refine lv_lconst (v := 0) hx hb d_M_volume_104 (by decide) ?_
    refine lv_lstore (lv' := [(6, .long 0), (4, .long v10), (2, .long v5), (0, .ref a0), (1, .int p1)]) hx hb d_M_volume_105 hl (by decide) rfl (fun ls hl => ?_)
    refine lv_bipush (v := 8) hx hb d_M_volume_107 (by decide) ?_
    refine lv_iload_n hx hb d_M_volume_109 rfl (lv_at hl 4 rfl) ?_
    refine lv_imul hx hb d_M_volume_110 ?_
    refine lv_istore (lv' := [(8, .int (8 * p1)), (6, .long 0), (4, .long v10), (2, .long v5), (0, .ref a0), (1, .int p1)]) hx hb d_M_volume_111 hl (by decide) rfl (fun ls hl => ?_)
    obtain ⟨K194, eK194, h⟩ := gj h
    have hK194 : ∀ (x23 : Int64) (w : gW) (H : Heap) (locs : List Loc) (ls : Array Slot), K194 x23 w = some r → gI D s A w H locs → lv_has ls 10 [(2, .long v5), (6, .long x23)] → W p l e rm_M_volume s m args below meth c H locs 0 0 Q (F0 m 194 ls []) := by
      intro x23 w H locs ls h hI hl
      have h := gk2 eK194 h
      refine lv_ldc2 (v := 113) hx hb hown (hT _ wd_1120 args) d_M_volume_194 ?_
      refine lv_lload hx hb d_M_volume_197 (lv_at hl 1 rfl) ?_
      refine lv_lmul hx hb d_M_volume_199 ?_
      refine lv_lload_n hx hb d_M_volume_200 rfl (lv_at hl 0 rfl) ?_
      refine lv_lmul hx hb d_M_volume_201 ?_
      exact W.widen (show 0 ≤ 0 by omega) (show 0 ≤ 0 by omega) (hret _ _ (Option.some.inj h).symm _ _ _ _ d_M_volume_202 hI)
    have hL113 : ∀ (n : Nat), ∀ (z24 : Int64) (z25 : Int32) (w : gW) (H : Heap) (locs : List Loc) (ls : Array Slot), f_M_volume_L113 g0 a0 p1 v5 K194 n z24 z25 w = some r → gI D s A w H locs → lv_has ls 10 [(0, .ref a0), (1, .int p1), (2, .long v5), (6, .long z24), (8, .int z25)] → W p l e rm_M_volume s m args below meth c H locs 0 0 Q (F0 m 113 ls []) := by
      intro n
      induction n with
      | zero => intro z24 z25 w H locs ls h hI hl; exact absurd h (by simp [f_M_volume_L113])
      | succ n ih =>
        intro z24 z25 w H locs ls h hI hl
        rw [f_M_volume_L113] at h
        refine lv_iload hx hb d_M_volume_113 (lv_at hl 4 rfl) ?_
        refine lv_bipush (v := 8) hx hb d_M_volume_115 (by decide) ?_
        refine lv_iload_n hx hb d_M_volume_117 rfl (lv_at hl 1 rfl) ?_
        refine lv_imul hx hb d_M_volume_118 ?_
        refine lv_aload_n hx hb d_M_volume_119 rfl (lv_at hl 0 rfl) ?_
        obtain ⟨v26, e27, h⟩ := gb h
        refine gw_getA hx hb hT hown hK hI (ci := 7) rfl i_7 6 (by decide) wd_792 (fun _ h9 => h9) e27 d_M_volume_120 ?_
        refine lv_iload_n hx hb d_M_volume_123 rfl (lv_at hl 1 rfl) ?_
        obtain ⟨v28, e29, h⟩ := gb h
        refine gw_aldI hx hb hK hI e29 d_M_volume_124 ?_
        refine lv_iadd hx hb d_M_volume_125 ?_
        refine lv_icmp_ge (tgt := 194) hx hb d_M_volume_126 (by decide) (fun c30 => ?_) (fun c30 => ?_)
        · skip
          have h := git c30 h
          exact hK194 _ w H locs ls h hI (lv_sub hl [2, 3] rfl)
        · skip
          have h := gie c30 h
          refine lv_bipush (v := 8) hx hb d_M_volume_129 (by decide) ?_
          refine lv_iload_n hx hb d_M_volume_131 rfl (lv_at hl 1 rfl) ?_
          refine lv_imul hx hb d_M_volume_132 ?_
          refine lv_iload hx hb d_M_volume_133 (lv_at hl 4 rfl) ?_
          refine lv_bipush (v := 8) hx hb d_M_volume_135 (by decide) ?_
          refine lv_iload_n hx hb d_M_volume_137 rfl (lv_at hl 1 rfl) ?_
          refine lv_imul hx hb d_M_volume_138 ?_
          refine lv_isub hx hb d_M_volume_139 ?_
          refine lv_iconst (v := 1) hx hb d_M_volume_140 (by decide) ?_
          refine lv_iadd hx hb d_M_volume_141 ?_
          refine lv_aload_n hx hb d_M_volume_142 rfl (lv_at hl 0 rfl) ?_
          obtain ⟨v31, e32, h⟩ := gb h
          refine gw_getA hx hb hT hown hK hI (ci := 7) rfl i_7 6 (by decide) wd_792 (fun _ h9 => h9) e32 d_M_volume_143 ?_
          refine lv_iload_n hx hb d_M_volume_146 rfl (lv_at hl 1 rfl) ?_
          obtain ⟨v33, e34, h⟩ := gb h
          refine gw_aldI hx hb hK hI e34 d_M_volume_147 ?_
          obtain ⟨g35, h⟩ := gif h
          refine lv_irem hx hb d_M_volume_148 g35 ?_
          refine lv_iadd hx hb d_M_volume_149 ?_
          refine lv_istore (lv' := [(9, .int ((8 * p1) + (((z25 - (8 * p1)) + 1) - ((z25 - (8 * p1)) + 1) / v33 * v33))), (0, .ref a0), (1, .int p1), (2, .long v5), (6, .long z24), (8, .int z25)]) hx hb d_M_volume_150 hl (by decide) rfl (fun ls hl => ?_)
          refine lv_lload hx hb d_M_volume_152 (lv_at hl 4 rfl) ?_
          refine lv_aload_n hx hb d_M_volume_154 rfl (lv_at hl 1 rfl) ?_
          obtain ⟨v36, e37, h⟩ := gb h
          refine gw_getA hx hb hT hown hK hI (ci := 7) rfl i_7 7 (by decide) wd_793 (fun _ h9 => h9) e37 d_M_volume_155 ?_
          refine lv_iload hx hb d_M_volume_158 (lv_at hl 5 rfl) ?_
          obtain ⟨v38, e39, h⟩ := gb h
          refine gw_aldJ hx hb hK hI e39 d_M_volume_160 ?_
          refine lv_aload_n hx hb d_M_volume_161 rfl (lv_at hl 1 rfl) ?_
          obtain ⟨v40, e41, h⟩ := gb h
          refine gw_getA hx hb hT hown hK hI (ci := 7) rfl i_7 8 (by decide) wd_794 (fun _ h9 => h9) e41 d_M_volume_162 ?_
          refine lv_iload hx hb d_M_volume_165 (lv_at hl 0 rfl) ?_
          obtain ⟨v42, e43, h⟩ := gb h
          refine gw_aldJ hx hb hK hI e43 d_M_volume_167 ?_
          refine lv_lmul hx hb d_M_volume_168 ?_
          refine lv_aload_n hx hb d_M_volume_169 rfl (lv_at hl 1 rfl) ?_
          obtain ⟨v44, e45, h⟩ := gb h
          refine gw_getA hx hb hT hown hK hI (ci := 7) rfl i_7 8 (by decide) wd_794 (fun _ h9 => h9) e45 d_M_volume_170 ?_
          refine lv_iload hx hb d_M_volume_173 (lv_at hl 5 rfl) ?_
          obtain ⟨v46, e47, h⟩ := gb h
          refine gw_aldJ hx hb hK hI e47 d_M_volume_175 ?_
          refine lv_aload_n hx hb d_M_volume_176 rfl (lv_at hl 1 rfl) ?_
          obtain ⟨v48, e49, h⟩ := gb h
          refine gw_getA hx hb hT hown hK hI (ci := 7) rfl i_7 7 (by decide) wd_793 (fun _ h9 => h9) e49 d_M_volume_177 ?_
          refine lv_iload hx hb d_M_volume_180 (lv_at hl 0 rfl) ?_
          obtain ⟨v50, e51, h⟩ := gb h
          refine gw_aldJ hx hb hK hI e51 d_M_volume_182 ?_
          refine lv_lmul hx hb d_M_volume_183 ?_
          refine lv_lsub hx hb d_M_volume_184 ?_
          refine lv_ladd hx hb d_M_volume_185 ?_
          refine lv_lstore (lv' := [(6, .long (z24 + ((v38 * v42) - (v46 * v50)))), (9, .int ((8 * p1) + (((z25 - (8 * p1)) + 1) - ((z25 - (8 * p1)) + 1) / v33 * v33))), (0, .ref a0), (1, .int p1), (2, .long v5), (8, .int z25)]) hx hb d_M_volume_186 hl (by decide) rfl (fun ls hl => ?_)
          refine lv_iinc (v := z25 + 1) (lv' := [(8, .int (z25 + 1)), (6, .long (z24 + ((v38 * v42) - (v46 * v50)))), (9, .int ((8 * p1) + (((z25 - (8 * p1)) + 1) - ((z25 - (8 * p1)) + 1) / v33 * v33))), (0, .ref a0), (1, .int p1), (2, .long v5)]) hx hb d_M_volume_188 hl (k := 5) rfl rfl (by decide) rfl (fun ls hl => ?_)
          refine lv_goto (tgt := 113) hx hb d_M_volume_191 (by decide) ?_
          exact ih _ _ w H locs ls h hI (lv_sub hl [3, 4, 5, 1, 0] rfl)
    exact hL113 64 _ _ w H locs ls h hI (lv_sub hl [4, 5, 3, 1, 0] rfl)
  have h := gie c22 h
  rcases Decidable.em (v13 = 3) with c52 | c52
  · have h := git c52 h
    refine lv_tableIn (off := 59) (tgt := 80) hx hb d_M_volume_21 (by rw [c52]; decide) (by rw [c52]; decide) (by rw [c52]; decide) (by decide) ?_
    refine lv_ldc2 (v := 710) hx hb hown (hT _ wd_1119 args) d_M_volume_80 ?_
    refine lv_lload hx hb d_M_volume_83 (lv_at hl 0 rfl) ?_
    refine lv_lmul hx hb d_M_volume_85 ?_
    refine lv_lload hx hb d_M_volume_86 (lv_at hl 0 rfl) ?_
    refine lv_lmul hx hb d_M_volume_88 ?_
    refine lv_lload_n hx hb d_M_volume_89 rfl (lv_at hl 1 rfl) ?_
    refine lv_lconst (v := 0) hx hb d_M_volume_90 (by decide) ?_
    refine W.lcmp hx hb d_M_volume_91 ?_
    obtain ⟨K102, eK102, h⟩ := gj h
    have hK102 : ∀ (y53 : Int64) (w : gW) (H : Heap) (locs : List Loc) (ls : Array Slot), K102 y53 w = some r → gI D s A w H locs → lv_has ls 10 [] → W p l e rm_M_volume s m args below meth c H locs 0 0 Q (F0 m 102 ls [.long y53, .long ((710 * v10) * v10)]) := by
      intro y53 w H locs ls h hI hl
      have h := gk2 eK102 h
      refine lv_lmul hx hb d_M_volume_102 ?_
      exact W.widen (show 0 ≤ 0 by omega) (show 0 ≤ 0 by omega) (hret _ _ (Option.some.inj h).symm _ _ _ _ d_M_volume_103 hI)
    refine lv_if_ge (tgt := 101) hx hb d_M_volume_92 (by decide) (fun c54 => ?_) (fun c54 => ?_)
    · have c54 := (lg_cmp_ge _ _).mp c54
      have h := git c54 h
      refine lv_lload_n hx hb d_M_volume_101 rfl (lv_at hl 1 rfl) ?_
      exact hK102 _ w H locs ls h hI (lv_sub hl [] rfl)
    · have c54 := mt (lg_cmp_ge _ _).mpr c54
      have h := gie c54 h
      refine lv_lconst (v := 0) hx hb d_M_volume_95 (by decide) ?_
      refine lv_lload_n hx hb d_M_volume_96 rfl (lv_at hl 1 rfl) ?_
      refine lv_lsub hx hb d_M_volume_97 ?_
      refine lv_goto (tgt := 102) hx hb d_M_volume_98 (by decide) ?_
      exact hK102 _ w H locs ls h hI (lv_sub hl [] rfl)
  have h := gie c52 h
  refine lv_tableOut (tgt := 104) hx hb d_M_volume_21 (by have q0 := lv_neT c15 (show (0 : Int32).toInt = 0 by decide); have q1 := lv_neT c21 (show (1 : Int32).toInt = 1 by decide); have q2 := lv_neT c22 (show (2 : Int32).toInt = 2 by decide); have q3 := lv_neT c52 (show (3 : Int32).toInt = 3 by decide); omega) (by decide) ?_
  refine lv_lconst (v := 0) hx hb d_M_volume_104 (by decide) ?_
  refine lv_lstore (lv' := [(6, .long 0), (4, .long v10), (2, .long v5), (0, .ref a0), (1, .int p1)]) hx hb d_M_volume_105 hl (by decide) rfl (fun ls hl => ?_)
  refine lv_bipush (v := 8) hx hb d_M_volume_107 (by decide) ?_
  refine lv_iload_n hx hb d_M_volume_109 rfl (lv_at hl 4 rfl) ?_
  refine lv_imul hx hb d_M_volume_110 ?_
  refine lv_istore (lv' := [(8, .int (8 * p1)), (6, .long 0), (4, .long v10), (2, .long v5), (0, .ref a0), (1, .int p1)]) hx hb d_M_volume_111 hl (by decide) rfl (fun ls hl => ?_)
  obtain ⟨K194, eK194, h⟩ := gj h
  have hK194 : ∀ (x55 : Int64) (w : gW) (H : Heap) (locs : List Loc) (ls : Array Slot), K194 x55 w = some r → gI D s A w H locs → lv_has ls 10 [(2, .long v5), (6, .long x55)] → W p l e rm_M_volume s m args below meth c H locs 0 0 Q (F0 m 194 ls []) := by
    intro x55 w H locs ls h hI hl
    have h := gk2 eK194 h
    refine lv_ldc2 (v := 113) hx hb hown (hT _ wd_1120 args) d_M_volume_194 ?_
    refine lv_lload hx hb d_M_volume_197 (lv_at hl 1 rfl) ?_
    refine lv_lmul hx hb d_M_volume_199 ?_
    refine lv_lload_n hx hb d_M_volume_200 rfl (lv_at hl 0 rfl) ?_
    refine lv_lmul hx hb d_M_volume_201 ?_
    exact W.widen (show 0 ≤ 0 by omega) (show 0 ≤ 0 by omega) (hret _ _ (Option.some.inj h).symm _ _ _ _ d_M_volume_202 hI)
  have hL113 : ∀ (n : Nat), ∀ (z56 : Int64) (z57 : Int32) (w : gW) (H : Heap) (locs : List Loc) (ls : Array Slot), f_M_volume_L113 g0 a0 p1 v5 K194 n z56 z57 w = some r → gI D s A w H locs → lv_has ls 10 [(0, .ref a0), (1, .int p1), (2, .long v5), (6, .long z56), (8, .int z57)] → W p l e rm_M_volume s m args below meth c H locs 0 0 Q (F0 m 113 ls []) := by
    intro n
    induction n with
    | zero => intro z56 z57 w H locs ls h hI hl; exact absurd h (by simp [f_M_volume_L113])
    | succ n ih =>
      intro z56 z57 w H locs ls h hI hl
      rw [f_M_volume_L113] at h
      refine lv_iload hx hb d_M_volume_113 (lv_at hl 4 rfl) ?_
      refine lv_bipush (v := 8) hx hb d_M_volume_115 (by decide) ?_
      refine lv_iload_n hx hb d_M_volume_117 rfl (lv_at hl 1 rfl) ?_
      refine lv_imul hx hb d_M_volume_118 ?_
      refine lv_aload_n hx hb d_M_volume_119 rfl (lv_at hl 0 rfl) ?_
      obtain ⟨v58, e59, h⟩ := gb h
      refine gw_getA hx hb hT hown hK hI (ci := 7) rfl i_7 6 (by decide) wd_792 (fun _ h9 => h9) e59 d_M_volume_120 ?_
      refine lv_iload_n hx hb d_M_volume_123 rfl (lv_at hl 1 rfl) ?_
      obtain ⟨v60, e61, h⟩ := gb h
      refine gw_aldI hx hb hK hI e61 d_M_volume_124 ?_
      refine lv_iadd hx hb d_M_volume_125 ?_
      refine lv_icmp_ge (tgt := 194) hx hb d_M_volume_126 (by decide) (fun c62 => ?_) (fun c62 => ?_)
      · skip
        have h := git c62 h
        exact hK194 _ w H locs ls h hI (lv_sub hl [2, 3] rfl)
      · skip
        have h := gie c62 h
        refine lv_bipush (v := 8) hx hb d_M_volume_129 (by decide) ?_
        refine lv_iload_n hx hb d_M_volume_131 rfl (lv_at hl 1 rfl) ?_
        refine lv_imul hx hb d_M_volume_132 ?_
        refine lv_iload hx hb d_M_volume_133 (lv_at hl 4 rfl) ?_
        refine lv_bipush (v := 8) hx hb d_M_volume_135 (by decide) ?_
        refine lv_iload_n hx hb d_M_volume_137 rfl (lv_at hl 1 rfl) ?_
        refine lv_imul hx hb d_M_volume_138 ?_
        refine lv_isub hx hb d_M_volume_139 ?_
        refine lv_iconst (v := 1) hx hb d_M_volume_140 (by decide) ?_
        refine lv_iadd hx hb d_M_volume_141 ?_
        refine lv_aload_n hx hb d_M_volume_142 rfl (lv_at hl 0 rfl) ?_
        obtain ⟨v63, e64, h⟩ := gb h
        refine gw_getA hx hb hT hown hK hI (ci := 7) rfl i_7 6 (by decide) wd_792 (fun _ h9 => h9) e64 d_M_volume_143 ?_
        refine lv_iload_n hx hb d_M_volume_146 rfl (lv_at hl 1 rfl) ?_
        obtain ⟨v65, e66, h⟩ := gb h
        refine gw_aldI hx hb hK hI e66 d_M_volume_147 ?_
        obtain ⟨g67, h⟩ := gif h
        refine lv_irem hx hb d_M_volume_148 g67 ?_
        refine lv_iadd hx hb d_M_volume_149 ?_
        refine lv_istore (lv' := [(9, .int ((8 * p1) + (((z57 - (8 * p1)) + 1) - ((z57 - (8 * p1)) + 1) / v65 * v65))), (0, .ref a0), (1, .int p1), (2, .long v5), (6, .long z56), (8, .int z57)]) hx hb d_M_volume_150 hl (by decide) rfl (fun ls hl => ?_)
        refine lv_lload hx hb d_M_volume_152 (lv_at hl 4 rfl) ?_
        refine lv_aload_n hx hb d_M_volume_154 rfl (lv_at hl 1 rfl) ?_
        obtain ⟨v68, e69, h⟩ := gb h
        refine gw_getA hx hb hT hown hK hI (ci := 7) rfl i_7 7 (by decide) wd_793 (fun _ h9 => h9) e69 d_M_volume_155 ?_
        refine lv_iload hx hb d_M_volume_158 (lv_at hl 5 rfl) ?_
        obtain ⟨v70, e71, h⟩ := gb h
        refine gw_aldJ hx hb hK hI e71 d_M_volume_160 ?_
        refine lv_aload_n hx hb d_M_volume_161 rfl (lv_at hl 1 rfl) ?_
        obtain ⟨v72, e73, h⟩ := gb h
        refine gw_getA hx hb hT hown hK hI (ci := 7) rfl i_7 8 (by decide) wd_794 (fun _ h9 => h9) e73 d_M_volume_162 ?_
        refine lv_iload hx hb d_M_volume_165 (lv_at hl 0 rfl) ?_
        obtain ⟨v74, e75, h⟩ := gb h
        refine gw_aldJ hx hb hK hI e75 d_M_volume_167 ?_
        refine lv_lmul hx hb d_M_volume_168 ?_
        refine lv_aload_n hx hb d_M_volume_169 rfl (lv_at hl 1 rfl) ?_
        obtain ⟨v76, e77, h⟩ := gb h
        refine gw_getA hx hb hT hown hK hI (ci := 7) rfl i_7 8 (by decide) wd_794 (fun _ h9 => h9) e77 d_M_volume_170 ?_
        refine lv_iload hx hb d_M_volume_173 (lv_at hl 5 rfl) ?_
        obtain ⟨v78, e79, h⟩ := gb h
        refine gw_aldJ hx hb hK hI e79 d_M_volume_175 ?_
        refine lv_aload_n hx hb d_M_volume_176 rfl (lv_at hl 1 rfl) ?_
        obtain ⟨v80, e81, h⟩ := gb h
        refine gw_getA hx hb hT hown hK hI (ci := 7) rfl i_7 7 (by decide) wd_793 (fun _ h9 => h9) e81 d_M_volume_177 ?_
        refine lv_iload hx hb d_M_volume_180 (lv_at hl 0 rfl) ?_
        obtain ⟨v82, e83, h⟩ := gb h
        refine gw_aldJ hx hb hK hI e83 d_M_volume_182 ?_
        refine lv_lmul hx hb d_M_volume_183 ?_
        refine lv_lsub hx hb d_M_volume_184 ?_
        refine lv_ladd hx hb d_M_volume_185 ?_
        refine lv_lstore (lv' := [(6, .long (z56 + ((v70 * v74) - (v78 * v82)))), (9, .int ((8 * p1) + (((z57 - (8 * p1)) + 1) - ((z57 - (8 * p1)) + 1) / v65 * v65))), (0, .ref a0), (1, .int p1), (2, .long v5), (8, .int z57)]) hx hb d_M_volume_186 hl (by decide) rfl (fun ls hl => ?_)
        refine lv_iinc (v := z57 + 1) (lv' := [(8, .int (z57 + 1)), (6, .long (z56 + ((v70 * v74) - (v78 * v82)))), (9, .int ((8 * p1) + (((z57 - (8 * p1)) + 1) - ((z57 - (8 * p1)) + 1) / v65 * v65))), (0, .ref a0), (1, .int p1), (2, .long v5)]) hx hb d_M_volume_188 hl (k := 5) rfl rfl (by decide) rfl (fun ls hl => ?_)
        refine lv_goto (tgt := 113) hx hb d_M_volume_191 (by decide) ?_
        exact ih _ _ w H locs ls h hI (lv_sub hl [3, 4, 5, 1, 0] rfl)
  exact hL113 64 _ _ w H locs ls h hI (lv_sub hl [4, 5, 3, 1, 0] rfl)

abbrev b_M_mass : ByteArray := prog_9_method_64_code
def y_M_mass : MethodName := ⟨"BodySolidsModel", "mass", "(I)J"⟩
theorem d_M_mass_0 : decode b_M_mass 0 = .ok (.aload_n 0, 1) := by decide +kernel
theorem d_M_mass_1 : decode b_M_mass 1 = .ok (.aload_n 0, 1) := by decide +kernel
theorem d_M_mass_2 : decode b_M_mass 2 = .ok (.iload_n 1, 1) := by decide +kernel
theorem d_M_mass_3 : decode b_M_mass 3 = .ok (.invokevirtual 109, 3) := by decide +kernel
theorem d_M_mass_6 : decode b_M_mass 6 = .ok (.ifCond .eq 7, 3) := by decide +kernel
theorem d_M_mass_9 : decode b_M_mass 9 = .ok (.iconst 0, 1) := by decide +kernel
theorem d_M_mass_10 : decode b_M_mass 10 = .ok (.goto 4, 3) := by decide +kernel
theorem d_M_mass_13 : decode b_M_mass 13 = .ok (.iconst 1, 1) := by decide +kernel
theorem d_M_mass_14 : decode b_M_mass 14 = .ok (.putfield 80, 3) := by decide +kernel
theorem d_M_mass_17 : decode b_M_mass 17 = .ok (.lconst 0, 1) := by decide +kernel
theorem d_M_mass_18 : decode b_M_mass 18 = .ok (.lstore_n 2, 1) := by decide +kernel
theorem d_M_mass_19 : decode b_M_mass 19 = .ok (.iconst 0, 1) := by decide +kernel
theorem d_M_mass_20 : decode b_M_mass 20 = .ok (.istore 4, 2) := by decide +kernel
theorem d_M_mass_22 : decode b_M_mass 22 = .ok (.aload_n 0, 1) := by decide +kernel
theorem d_M_mass_23 : decode b_M_mass 23 = .ok (.getfield 80, 3) := by decide +kernel
theorem d_M_mass_26 : decode b_M_mass 26 = .ok (.ifCond .ne 34, 3) := by decide +kernel
theorem d_M_mass_29 : decode b_M_mass 29 = .ok (.iload 4, 2) := by decide +kernel
theorem d_M_mass_31 : decode b_M_mass 31 = .ok (.aload_n 0, 1) := by decide +kernel
theorem d_M_mass_32 : decode b_M_mass 32 = .ok (.getfield 7, 3) := by decide +kernel
theorem d_M_mass_35 : decode b_M_mass 35 = .ok (.iload_n 1, 1) := by decide +kernel
theorem d_M_mass_36 : decode b_M_mass 36 = .ok (.iaload, 1) := by decide +kernel
theorem d_M_mass_37 : decode b_M_mass 37 = .ok (.if_icmp .ge 23, 3) := by decide +kernel
theorem d_M_mass_40 : decode b_M_mass 40 = .ok (.lload_n 2, 1) := by decide +kernel
theorem d_M_mass_41 : decode b_M_mass 41 = .ok (.aload_n 0, 1) := by decide +kernel
theorem d_M_mass_42 : decode b_M_mass 42 = .ok (.bipush 12, 2) := by decide +kernel
theorem d_M_mass_44 : decode b_M_mass 44 = .ok (.iload_n 1, 1) := by decide +kernel
theorem d_M_mass_45 : decode b_M_mass 45 = .ok (.imul, 1) := by decide +kernel
theorem d_M_mass_46 : decode b_M_mass 46 = .ok (.iload 4, 2) := by decide +kernel
theorem d_M_mass_48 : decode b_M_mass 48 = .ok (.iadd, 1) := by decide +kernel
theorem d_M_mass_49 : decode b_M_mass 49 = .ok (.invokevirtual 289, 3) := by decide +kernel
theorem d_M_mass_52 : decode b_M_mass 52 = .ok (.ladd, 1) := by decide +kernel
theorem d_M_mass_53 : decode b_M_mass 53 = .ok (.lstore_n 2, 1) := by decide +kernel
theorem d_M_mass_54 : decode b_M_mass 54 = .ok (.iinc 4 1, 3) := by decide +kernel
theorem d_M_mass_57 : decode b_M_mass 57 = .ok (.goto (-35), 3) := by decide +kernel
theorem d_M_mass_60 : decode b_M_mass 60 = .ok (.lload_n 2, 1) := by decide +kernel
theorem d_M_mass_61 : decode b_M_mass 61 = .ok (.lreturn, 1) := by decide +kernel
abbrev rm_M_mass : Room := { frames := 2, cells := 0, slots := 0, locals := 51 }
theorem ce_M_mass : gCe y_M_mass (.code y_M_mass b_M_mass 5 (some .long)) 5 1 false := gCe.code wd_1113 wd_57 wd_1111 (by decide) (by decide +kernel)
def f_M_mass_L22 (g0 : gG) (c0 : Nat) (c1 : Int32) (K60 : Int64 → gW → gX Int64) : Nat → Int64 → Int32 → gW → gX Int64
  | 0, _, _, _ => none
  | n + 1, z2, z4, w => (gfI w c0 7 0).bind fun v9 => if v9 = 0 then ((gfA w c0 7 3).bind fun v12 => (gaI w v12 c1).bind fun v14 => if v14 ≤ z4 then (K60 z2 w) else ((gck w c0 7).bind fun _ => gbind (f_M_volume g0 c0 ((12 * c1) + z4) w) fun v21 w => f_M_mass_L22 g0 c0 c1 K60 n (z2 + v21) (z4 + 1) w)) else (K60 z2 w)
def f_M_mass (g0 : gG) (a0 : Nat) (p1 : Int32) (w : gW) : gX Int64 := (gck w a0 7).bind fun _ => gbind (f_M_isBody g0 a0 p1 w) fun v5 w => gjoin (fun K14 => if v5 = 0 then (K14 1 w) else (K14 0 w)) (fun (y6 : Int32) (w : gW) => (gp w a0 7 0 (.int y6)).bind fun w => gjoin (fun K60 => f_M_mass_L22 g0 a0 p1 K60 64 0 0 w) (fun (x8 : Int64) (w : gW) => some (.inr x8, w)))
set_option maxHeartbeats 4000000 in
set_option maxRecDepth 100000 in
theorem m_M_mass (l : Launch) (hst : l.stackTraces = false) (D : gD) (g0 : gG) (a0 : Nat) (p1 : Int32) (w : gW) (r : (String ⊕ Int64) × gW) (h : f_M_mass g0 a0 p1 w = some r) : gMet l y_M_mass (.code y_M_mass b_M_mass 5 (some .long)) rm_M_mass D g0 [.ref a0, .int p1] w (goJ r) := by
  refine gw_ofJ (by decide +kernel) (Nat.le_of_ble_eq_true rfl) ?_
  intro p e s m below meth c ls args A Q hx hb hml hown hlocks hin hnt hT hK hZ hA hret hexc hthr hI hl
  obtain ⟨H, hH⟩ : ∃ H, H = s.heap := ⟨_, rfl⟩
  rw [← hH] at hI ⊢
  obtain ⟨locs, hlocs⟩ : ∃ z : List Loc, z = [] := ⟨_, rfl⟩
  rw [← hlocs] at hI ⊢
  have hl : lv_has ls 5 [(0, .ref a0), (1, .int p1)] := hl
  unfold f_M_mass at h
  refine lv_aload_n hx hb d_M_mass_0 rfl (lv_at hl 0 rfl) ?_
  refine lv_aload_n hx hb d_M_mass_1 rfl (lv_at hl 0 rfl) ?_
  refine lv_iload_n hx hb d_M_mass_2 rfl (lv_at hl 1 rfl) ?_
  obtain ⟨q3, e4, h⟩ := gb h
  obtain ⟨u1, e2⟩ := gsome h
  refine gw_callI e2 h (gw_runV (As := [.int p1]) (rest := [.ref a0]) hx hb hml hown hT hK hZ hA hI (ci := 7) rfl e4 (m_M_isBody l hst D g0 a0 p1 w u1 e2) ce_M_isBody wd_894 wd_17 ⟨by decide, by decide⟩ rfl rfl hl.1 rfl (lv_room (Nat.le_of_ble_eq_true rfl)) d_M_mass_3 ⟨(show 0 + 0 ≤ 0 by omega), (show 0 + 0 ≤ 0 by omega)⟩) hI hA hexc (show 0 + 0 ≤ 0 by omega) (show 0 + 0 ≤ 0 by omega) (fun v5 w H locs h hI => ?_)
  obtain ⟨K14, eK14, h⟩ := gj h
  have hK14 : ∀ (y6 : Int32) (w : gW) (H : Heap) (locs : List Loc) (ls : Array Slot), K14 y6 w = some r → gI D s A w H locs → lv_has ls 5 [(0, .ref a0), (1, .int p1)] → W p l e rm_M_mass s m args below meth c H locs 0 0 Q (F0 m 14 ls [.int y6, .ref a0]) := by
    intro y6 w H locs ls h hI hl
    have h := gk2 eK14 h
    obtain ⟨w, e7, h⟩ := gb h
    refine gw_put hx hb hT hown hK hI (ci := 7) rfl i_7 t_7 t_7_ok n_7 0 (by decide) wd_786 (fun _ h9 => h9) rfl (ty := .int) (by decide +kernel) rfl rfl e7 d_M_mass_14 (fun H locs hI => ?_)
    refine lv_lconst (v := 0) hx hb d_M_mass_17 (by decide) ?_
    refine lv_lstore_n (lv' := [(2, .long 0), (0, .ref a0), (1, .int p1)]) hx hb d_M_mass_18 rfl hl (by decide) rfl (fun ls hl => ?_)
    refine lv_iconst (v := 0) hx hb d_M_mass_19 (by decide) ?_
    refine lv_istore (lv' := [(4, .int 0), (2, .long 0), (0, .ref a0), (1, .int p1)]) hx hb d_M_mass_20 hl (by decide) rfl (fun ls hl => ?_)
    obtain ⟨K60, eK60, h⟩ := gj h
    have hK60 : ∀ (x8 : Int64) (w : gW) (H : Heap) (locs : List Loc) (ls : Array Slot), K60 x8 w = some r → gI D s A w H locs → lv_has ls 5 [(2, .long x8)] → W p l e rm_M_mass s m args below meth c H locs 0 0 Q (F0 m 60 ls []) := by
      intro x8 w H locs ls h hI hl
      have h := gk2 eK60 h
      refine lv_lload_n hx hb d_M_mass_60 rfl (lv_at hl 0 rfl) ?_
      exact W.widen (show 0 ≤ 0 by omega) (show 0 ≤ 0 by omega) (hret _ _ (Option.some.inj h).symm _ _ _ _ d_M_mass_61 hI)
    have hL22 : ∀ (n : Nat), ∀ (z9 : Int64) (z10 : Int32) (w : gW) (H : Heap) (locs : List Loc) (ls : Array Slot), f_M_mass_L22 g0 a0 p1 K60 n z9 z10 w = some r → gI D s A w H locs → lv_has ls 5 [(0, .ref a0), (1, .int p1), (2, .long z9), (4, .int z10)] → W p l e rm_M_mass s m args below meth c H locs 0 0 Q (F0 m 22 ls []) := by
      intro n
      induction n with
      | zero => intro z9 z10 w H locs ls h hI hl; exact absurd h (by simp [f_M_mass_L22])
      | succ n ih =>
        intro z9 z10 w H locs ls h hI hl
        rw [f_M_mass_L22] at h
        refine lv_aload_n hx hb d_M_mass_22 rfl (lv_at hl 0 rfl) ?_
        obtain ⟨v11, e12, h⟩ := gb h
        refine gw_getI hx hb hT hown hK hI (ci := 7) rfl i_7 0 (by decide) wd_786 (fun _ h9 => h9) e12 d_M_mass_23 ?_
        refine lv_if_ne (tgt := 60) hx hb d_M_mass_26 (by decide) (fun c13 => ?_) (fun c13 => ?_)
        · skip
          have h := gie c13 h
          exact hK60 _ w H locs ls h hI (lv_sub hl [2] rfl)
        · skip
          have h := git c13 h
          refine lv_iload hx hb d_M_mass_29 (lv_at hl 3 rfl) ?_
          refine lv_aload_n hx hb d_M_mass_31 rfl (lv_at hl 0 rfl) ?_
          obtain ⟨v14, e15, h⟩ := gb h
          refine gw_getA hx hb hT hown hK hI (ci := 7) rfl i_7 3 (by decide) wd_789 (fun _ h9 => h9) e15 d_M_mass_32 ?_
          refine lv_iload_n hx hb d_M_mass_35 rfl (lv_at hl 1 rfl) ?_
          obtain ⟨v16, e17, h⟩ := gb h
          refine gw_aldI hx hb hK hI e17 d_M_mass_36 ?_
          refine lv_icmp_ge (tgt := 60) hx hb d_M_mass_37 (by decide) (fun c18 => ?_) (fun c18 => ?_)
          · skip
            have h := git c18 h
            exact hK60 _ w H locs ls h hI (lv_sub hl [2] rfl)
          · skip
            have h := gie c18 h
            refine lv_lload_n hx hb d_M_mass_40 rfl (lv_at hl 2 rfl) ?_
            refine lv_aload_n hx hb d_M_mass_41 rfl (lv_at hl 0 rfl) ?_
            refine lv_bipush (v := 12) hx hb d_M_mass_42 (by decide) ?_
            refine lv_iload_n hx hb d_M_mass_44 rfl (lv_at hl 1 rfl) ?_
            refine lv_imul hx hb d_M_mass_45 ?_
            refine lv_iload hx hb d_M_mass_46 (lv_at hl 3 rfl) ?_
            refine lv_iadd hx hb d_M_mass_48 ?_
            obtain ⟨q21, e22, h⟩ := gb h
            obtain ⟨u19, e20⟩ := gsome h
            refine gw_callJ e20 h (gw_runV (As := [.int ((12 * p1) + z10)]) (rest := [.long z9]) hx hb hml hown hT hK hZ hA hI (ci := 7) rfl e22 (m_M_volume l hst D g0 a0 ((12 * p1) + z10) w u19 e20) ce_M_volume wd_1114 wd_47 ⟨by decide, by decide⟩ rfl rfl hl.1 rfl (lv_room (Nat.le_of_ble_eq_true rfl)) d_M_mass_49 ⟨(show 0 + 0 ≤ 0 by omega), (show 0 + 0 ≤ 0 by omega)⟩) hI hA hexc (show 0 + 0 ≤ 0 by omega) (show 0 + 0 ≤ 0 by omega) (fun v23 w H locs h hI => ?_)
            refine lv_ladd hx hb d_M_mass_52 ?_
            refine lv_lstore_n (lv' := [(2, .long (z9 + v23)), (0, .ref a0), (1, .int p1), (4, .int z10)]) hx hb d_M_mass_53 rfl hl (by decide) rfl (fun ls hl => ?_)
            refine lv_iinc (v := z10 + 1) (lv' := [(4, .int (z10 + 1)), (2, .long (z9 + v23)), (0, .ref a0), (1, .int p1)]) hx hb d_M_mass_54 hl (k := 3) rfl rfl (by decide) rfl (fun ls hl => ?_)
            refine lv_goto (tgt := 22) hx hb d_M_mass_57 (by decide) ?_
            exact ih _ _ w H locs ls h hI (lv_sub hl [2, 3, 1, 0] rfl)
    exact hL22 64 _ _ w H locs ls h hI (lv_sub hl [2, 3, 1, 0] rfl)
  refine lv_if_eq (tgt := 13) hx hb d_M_mass_6 (by decide) (fun c24 => ?_) (fun c24 => ?_)
  · skip
    have h := git c24 h
    refine lv_iconst (v := 1) hx hb d_M_mass_13 (by decide) ?_
    exact hK14 _ w H locs ls h hI (lv_sub hl [0, 1] rfl)
  · skip
    have h := gie c24 h
    refine lv_iconst (v := 0) hx hb d_M_mass_9 (by decide) ?_
    refine lv_goto (tgt := 14) hx hb d_M_mass_10 (by decide) ?_
    exact hK14 _ w H locs ls h hI (lv_sub hl [0, 1] rfl)

abbrev b_M_thrown : ByteArray := prog_9_method_2_code
def y_M_thrown : MethodName := ⟨"BodySolidsModel", "thrown", "()I"⟩
theorem d_M_thrown_0 : decode b_M_thrown 0 = .ok (.aload_n 0, 1) := by decide +kernel
theorem d_M_thrown_1 : decode b_M_thrown 1 = .ok (.getfield 80, 3) := by decide +kernel
theorem d_M_thrown_4 : decode b_M_thrown 4 = .ok (.ireturn, 1) := by decide +kernel
abbrev rm_M_thrown : Room := { frames := 0, cells := 0, slots := 0, locals := 0 }
theorem ce_M_thrown : gCe y_M_thrown (.code y_M_thrown b_M_thrown 1 (some .int)) 1 0 false := gCe.code wd_871 wd_57 wd_869 (by decide) (by decide +kernel)
def f_M_thrown (g0 : gG) (a0 : Nat) (w : gW) : gX Int32 := (gfI w a0 7 0).bind fun v1 => some (.inr v1, w)
set_option maxHeartbeats 4000000 in
set_option maxRecDepth 100000 in
theorem m_M_thrown (l : Launch) (hst : l.stackTraces = false) (D : gD) (g0 : gG) (a0 : Nat) (w : gW) (r : (String ⊕ Int32) × gW) (h : f_M_thrown g0 a0 w = some r) : gMet l y_M_thrown (.code y_M_thrown b_M_thrown 1 (some .int)) rm_M_thrown D g0 [.ref a0] w (goI r) := by
  refine gw_ofI (by decide +kernel) (Nat.le_of_ble_eq_true rfl) ?_
  intro p e s m below meth c ls args A Q hx hb hml hown hlocks hin hnt hT hK hZ hA hret hexc hthr hI hl
  obtain ⟨H, hH⟩ : ∃ H, H = s.heap := ⟨_, rfl⟩
  rw [← hH] at hI ⊢
  obtain ⟨locs, hlocs⟩ : ∃ z : List Loc, z = [] := ⟨_, rfl⟩
  rw [← hlocs] at hI ⊢
  have hl : lv_has ls 1 [(0, .ref a0)] := hl
  unfold f_M_thrown at h
  refine lv_aload_n hx hb d_M_thrown_0 rfl (lv_at hl 0 rfl) ?_
  obtain ⟨v1, e2, h⟩ := gb h
  refine gw_getI hx hb hT hown hK hI (ci := 7) rfl i_7 0 (by decide) wd_786 (fun _ h9 => h9) e2 d_M_thrown_1 ?_
  exact W.widen (show 0 ≤ 0 by omega) (show 0 ≤ 0 by omega) (hret _ _ (Option.some.inj h).symm _ _ _ _ d_M_thrown_4 hI)
