abbrev b_M_tube : ByteArray := prog_9_method_19_code
def y_M_tube : MethodName := ⟨"BodySolidsModel", "tube", "(IJJJJIJ)Z"⟩
theorem d_M_tube_0 : decode b_M_tube 0 = .ok (.lload_n 2, 1) := by decide +kernel
theorem d_M_tube_1 : decode b_M_tube 1 = .ok (.lconst 1, 1) := by decide +kernel
theorem d_M_tube_2 : decode b_M_tube 2 = .ok (.ldc2_w 132, 3) := by decide +kernel
theorem d_M_tube_5 : decode b_M_tube 5 = .ok (.invokestatic 88, 3) := by decide +kernel
theorem d_M_tube_8 : decode b_M_tube 8 = .ok (.ifCond .eq 54, 3) := by decide +kernel
theorem d_M_tube_11 : decode b_M_tube 11 = .ok (.lload 4, 2) := by decide +kernel
theorem d_M_tube_13 : decode b_M_tube 13 = .ok (.lload 6, 2) := by decide +kernel
theorem d_M_tube_15 : decode b_M_tube 15 = .ok (.invokestatic 102, 3) := by decide +kernel
theorem d_M_tube_18 : decode b_M_tube 18 = .ok (.ifCond .eq 44, 3) := by decide +kernel
theorem d_M_tube_21 : decode b_M_tube 21 = .ok (.lload 8, 2) := by decide +kernel
theorem d_M_tube_23 : decode b_M_tube 23 = .ok (.lload_n 2, 1) := by decide +kernel
theorem d_M_tube_24 : decode b_M_tube 24 = .ok (.ldc2_w 86, 3) := by decide +kernel
theorem d_M_tube_27 : decode b_M_tube 27 = .ok (.invokestatic 88, 3) := by decide +kernel
theorem d_M_tube_30 : decode b_M_tube 30 = .ok (.ifCond .eq 32, 3) := by decide +kernel
theorem d_M_tube_33 : decode b_M_tube 33 = .ok (.iload 10, 2) := by decide +kernel
theorem d_M_tube_35 : decode b_M_tube 35 = .ok (.ifCond .lt 27, 3) := by decide +kernel
theorem d_M_tube_38 : decode b_M_tube 38 = .ok (.iload 10, 2) := by decide +kernel
theorem d_M_tube_40 : decode b_M_tube 40 = .ok (.iconst 3, 1) := by decide +kernel
theorem d_M_tube_41 : decode b_M_tube 41 = .ok (.if_icmp .ge 21, 3) := by decide +kernel
theorem d_M_tube_44 : decode b_M_tube 44 = .ok (.lload 11, 2) := by decide +kernel
theorem d_M_tube_46 : decode b_M_tube 46 = .ok (.ldc2_w 134, 3) := by decide +kernel
theorem d_M_tube_49 : decode b_M_tube 49 = .ok (.ldc2_w 136, 3) := by decide +kernel
theorem d_M_tube_52 : decode b_M_tube 52 = .ok (.invokestatic 88, 3) := by decide +kernel
theorem d_M_tube_55 : decode b_M_tube 55 = .ok (.ifCond .eq 7, 3) := by decide +kernel
theorem d_M_tube_58 : decode b_M_tube 58 = .ok (.iconst 1, 1) := by decide +kernel
theorem d_M_tube_59 : decode b_M_tube 59 = .ok (.goto 4, 3) := by decide +kernel
theorem d_M_tube_62 : decode b_M_tube 62 = .ok (.iconst 0, 1) := by decide +kernel
theorem d_M_tube_63 : decode b_M_tube 63 = .ok (.istore 13, 2) := by decide +kernel
theorem d_M_tube_65 : decode b_M_tube 65 = .ok (.iload 13, 2) := by decide +kernel
theorem d_M_tube_67 : decode b_M_tube 67 = .ok (.ifCond .eq 67, 3) := by decide +kernel
theorem d_M_tube_70 : decode b_M_tube 70 = .ok (.lload 4, 2) := by decide +kernel
theorem d_M_tube_72 : decode b_M_tube 72 = .ok (.iload 10, 2) := by decide +kernel
theorem d_M_tube_74 : decode b_M_tube 74 = .ok (.ifCond .ne 8, 3) := by decide +kernel
theorem d_M_tube_77 : decode b_M_tube 77 = .ok (.lload 11, 2) := by decide +kernel
theorem d_M_tube_79 : decode b_M_tube 79 = .ok (.goto 4, 3) := by decide +kernel
theorem d_M_tube_82 : decode b_M_tube 82 = .ok (.lconst 0, 1) := by decide +kernel
theorem d_M_tube_83 : decode b_M_tube 83 = .ok (.ladd, 1) := by decide +kernel
theorem d_M_tube_84 : decode b_M_tube 84 = .ok (.lload 6, 2) := by decide +kernel
theorem d_M_tube_86 : decode b_M_tube 86 = .ok (.iload 10, 2) := by decide +kernel
theorem d_M_tube_88 : decode b_M_tube 88 = .ok (.iconst 1, 1) := by decide +kernel
theorem d_M_tube_89 : decode b_M_tube 89 = .ok (.if_icmp .ne 8, 3) := by decide +kernel
theorem d_M_tube_92 : decode b_M_tube 92 = .ok (.lload 11, 2) := by decide +kernel
theorem d_M_tube_94 : decode b_M_tube 94 = .ok (.goto 4, 3) := by decide +kernel
theorem d_M_tube_97 : decode b_M_tube 97 = .ok (.lconst 0, 1) := by decide +kernel
theorem d_M_tube_98 : decode b_M_tube 98 = .ok (.ladd, 1) := by decide +kernel
theorem d_M_tube_99 : decode b_M_tube 99 = .ok (.invokestatic 102, 3) := by decide +kernel
theorem d_M_tube_102 : decode b_M_tube 102 = .ok (.ifCond .eq 32, 3) := by decide +kernel
theorem d_M_tube_105 : decode b_M_tube 105 = .ok (.lload 8, 2) := by decide +kernel
theorem d_M_tube_107 : decode b_M_tube 107 = .ok (.iload 10, 2) := by decide +kernel
theorem d_M_tube_109 : decode b_M_tube 109 = .ok (.iconst 2, 1) := by decide +kernel
theorem d_M_tube_110 : decode b_M_tube 110 = .ok (.if_icmp .ne 8, 3) := by decide +kernel
theorem d_M_tube_113 : decode b_M_tube 113 = .ok (.lload 11, 2) := by decide +kernel
theorem d_M_tube_115 : decode b_M_tube 115 = .ok (.goto 4, 3) := by decide +kernel
theorem d_M_tube_118 : decode b_M_tube 118 = .ok (.lconst 0, 1) := by decide +kernel
theorem d_M_tube_119 : decode b_M_tube 119 = .ok (.ladd, 1) := by decide +kernel
theorem d_M_tube_120 : decode b_M_tube 120 = .ok (.lload_n 2, 1) := by decide +kernel
theorem d_M_tube_121 : decode b_M_tube 121 = .ok (.ldc2_w 86, 3) := by decide +kernel
theorem d_M_tube_124 : decode b_M_tube 124 = .ok (.invokestatic 88, 3) := by decide +kernel
theorem d_M_tube_127 : decode b_M_tube 127 = .ok (.ifCond .eq 7, 3) := by decide +kernel
theorem d_M_tube_130 : decode b_M_tube 130 = .ok (.iconst 1, 1) := by decide +kernel
theorem d_M_tube_131 : decode b_M_tube 131 = .ok (.goto 4, 3) := by decide +kernel
theorem d_M_tube_134 : decode b_M_tube 134 = .ok (.iconst 0, 1) := by decide +kernel
theorem d_M_tube_135 : decode b_M_tube 135 = .ok (.istore 13, 2) := by decide +kernel
theorem d_M_tube_137 : decode b_M_tube 137 = .ok (.aload_n 0, 1) := by decide +kernel
theorem d_M_tube_138 : decode b_M_tube 138 = .ok (.aload_n 0, 1) := by decide +kernel
theorem d_M_tube_139 : decode b_M_tube 139 = .ok (.iload_n 1, 1) := by decide +kernel
theorem d_M_tube_140 : decode b_M_tube 140 = .ok (.invokevirtual 109, 3) := by decide +kernel
theorem d_M_tube_143 : decode b_M_tube 143 = .ok (.ifCond .ne 7, 3) := by decide +kernel
theorem d_M_tube_146 : decode b_M_tube 146 = .ok (.iconst 1, 1) := by decide +kernel
theorem d_M_tube_147 : decode b_M_tube 147 = .ok (.goto 13, 3) := by decide +kernel
theorem d_M_tube_150 : decode b_M_tube 150 = .ok (.iload 13, 2) := by decide +kernel
theorem d_M_tube_152 : decode b_M_tube 152 = .ok (.ifCond .eq 7, 3) := by decide +kernel
theorem d_M_tube_155 : decode b_M_tube 155 = .ok (.iconst 0, 1) := by decide +kernel
theorem d_M_tube_156 : decode b_M_tube 156 = .ok (.goto 4, 3) := by decide +kernel
theorem d_M_tube_159 : decode b_M_tube 159 = .ok (.iconst 2, 1) := by decide +kernel
theorem d_M_tube_160 : decode b_M_tube 160 = .ok (.putfield 80, 3) := by decide +kernel
theorem d_M_tube_163 : decode b_M_tube 163 = .ok (.aload_n 0, 1) := by decide +kernel
theorem d_M_tube_164 : decode b_M_tube 164 = .ok (.getfield 80, 3) := by decide +kernel
theorem d_M_tube_167 : decode b_M_tube 167 = .ok (.ifCond .eq 5, 3) := by decide +kernel
theorem d_M_tube_170 : decode b_M_tube 170 = .ok (.iconst 0, 1) := by decide +kernel
theorem d_M_tube_171 : decode b_M_tube 171 = .ok (.ireturn, 1) := by decide +kernel
theorem d_M_tube_172 : decode b_M_tube 172 = .ok (.aload_n 0, 1) := by decide +kernel
theorem d_M_tube_173 : decode b_M_tube 173 = .ok (.iload_n 1, 1) := by decide +kernel
theorem d_M_tube_174 : decode b_M_tube 174 = .ok (.iconst 3, 1) := by decide +kernel
theorem d_M_tube_175 : decode b_M_tube 175 = .ok (.invokevirtual 113, 3) := by decide +kernel
theorem d_M_tube_178 : decode b_M_tube 178 = .ok (.istore 14, 2) := by decide +kernel
theorem d_M_tube_180 : decode b_M_tube 180 = .ok (.iload 14, 2) := by decide +kernel
theorem d_M_tube_182 : decode b_M_tube 182 = .ok (.iconst (-1), 1) := by decide +kernel
theorem d_M_tube_183 : decode b_M_tube 183 = .ok (.if_icmp .ne 5, 3) := by decide +kernel
theorem d_M_tube_186 : decode b_M_tube 186 = .ok (.iconst 0, 1) := by decide +kernel
theorem d_M_tube_187 : decode b_M_tube 187 = .ok (.ireturn, 1) := by decide +kernel
theorem d_M_tube_188 : decode b_M_tube 188 = .ok (.aload_n 0, 1) := by decide +kernel
theorem d_M_tube_189 : decode b_M_tube 189 = .ok (.iload 14, 2) := by decide +kernel
theorem d_M_tube_191 : decode b_M_tube 191 = .ok (.iconst 0, 1) := by decide +kernel
theorem d_M_tube_192 : decode b_M_tube 192 = .ok (.lload 4, 2) := by decide +kernel
theorem d_M_tube_194 : decode b_M_tube 194 = .ok (.invokevirtual 117, 3) := by decide +kernel
theorem d_M_tube_197 : decode b_M_tube 197 = .ok (.aload_n 0, 1) := by decide +kernel
theorem d_M_tube_198 : decode b_M_tube 198 = .ok (.iload 14, 2) := by decide +kernel
theorem d_M_tube_200 : decode b_M_tube 200 = .ok (.iconst 1, 1) := by decide +kernel
theorem d_M_tube_201 : decode b_M_tube 201 = .ok (.lload 6, 2) := by decide +kernel
theorem d_M_tube_203 : decode b_M_tube 203 = .ok (.invokevirtual 117, 3) := by decide +kernel
theorem d_M_tube_206 : decode b_M_tube 206 = .ok (.aload_n 0, 1) := by decide +kernel
theorem d_M_tube_207 : decode b_M_tube 207 = .ok (.iload 14, 2) := by decide +kernel
theorem d_M_tube_209 : decode b_M_tube 209 = .ok (.iconst 2, 1) := by decide +kernel
theorem d_M_tube_210 : decode b_M_tube 210 = .ok (.lload 8, 2) := by decide +kernel
theorem d_M_tube_212 : decode b_M_tube 212 = .ok (.invokevirtual 117, 3) := by decide +kernel
theorem d_M_tube_215 : decode b_M_tube 215 = .ok (.aload_n 0, 1) := by decide +kernel
theorem d_M_tube_216 : decode b_M_tube 216 = .ok (.iload 14, 2) := by decide +kernel
theorem d_M_tube_218 : decode b_M_tube 218 = .ok (.iconst 3, 1) := by decide +kernel
theorem d_M_tube_219 : decode b_M_tube 219 = .ok (.lload_n 2, 1) := by decide +kernel
theorem d_M_tube_220 : decode b_M_tube 220 = .ok (.invokevirtual 117, 3) := by decide +kernel
theorem d_M_tube_223 : decode b_M_tube 223 = .ok (.aload_n 0, 1) := by decide +kernel
theorem d_M_tube_224 : decode b_M_tube 224 = .ok (.iload 14, 2) := by decide +kernel
theorem d_M_tube_226 : decode b_M_tube 226 = .ok (.iconst 4, 1) := by decide +kernel
theorem d_M_tube_227 : decode b_M_tube 227 = .ok (.iload 10, 2) := by decide +kernel
theorem d_M_tube_229 : decode b_M_tube 229 = .ok (.i2l, 1) := by decide +kernel
theorem d_M_tube_230 : decode b_M_tube 230 = .ok (.invokevirtual 117, 3) := by decide +kernel
theorem d_M_tube_233 : decode b_M_tube 233 = .ok (.aload_n 0, 1) := by decide +kernel
theorem d_M_tube_234 : decode b_M_tube 234 = .ok (.iload 14, 2) := by decide +kernel
theorem d_M_tube_236 : decode b_M_tube 236 = .ok (.iconst 5, 1) := by decide +kernel
theorem d_M_tube_237 : decode b_M_tube 237 = .ok (.lload 11, 2) := by decide +kernel
theorem d_M_tube_239 : decode b_M_tube 239 = .ok (.invokevirtual 117, 3) := by decide +kernel
theorem d_M_tube_242 : decode b_M_tube 242 = .ok (.iconst 1, 1) := by decide +kernel
theorem d_M_tube_243 : decode b_M_tube 243 = .ok (.ireturn, 1) := by decide +kernel
abbrev rm_M_tube : Room := { frames := 2, cells := 0, slots := 0, locals := 48 }
theorem ce_M_tube : gCe y_M_tube (.code y_M_tube b_M_tube 15 (some .boolean)) 15 7 false := gCe.code wd_928 wd_57 wd_926 (by decide) (by decide +kernel)
def f_M_tube (g0 : gG) (a0 : Nat) (p1 : Int32) (p2 : Int64) (p3 : Int64) (p4 : Int64) (p5 : Int64) (p6 : Int32) (p7 : Int64) (w : gW) : gX Int32 := gbind (f_M_within g0 p2 1 500 w) fun v3 w => gjoin (fun K63 => gjoin (fun K62 => if v3 = 0 then (K62 w) else (gbind (f_M_isPlace g0 p3 p4 w) fun v75 w => if v75 = 0 then (K62 w) else (gbind (f_M_within g0 p5 p2 5000 w) fun v79 w => if v79 = 0 then (K62 w) else (if p6 < 0 then (K62 w) else (if 3 ≤ p6 then (K62 w) else (gbind (f_M_within g0 p7 (-10000) 10000 w) fun v85 w => if v85 = 0 then (K62 w) else (K63 1 w))))))) (fun (w : gW) => K63 0 w)) (fun (y4 : Int32) (w : gW) => gjoin (fun K135 => gjoin (fun K134 => if y4 = 0 then (K134 w) else (gjoin (fun K83 => if p6 = 0 then (K83 p7 w) else (K83 0 w)) (fun (y58 : Int64) (w : gW) => gjoin (fun K98 => if p6 = 1 then (K98 p7 w) else (K98 0 w)) (fun (y59 : Int64) (w : gW) => gbind (f_M_isPlace g0 (p3 + y58) (p4 + y59) w) fun v62 w => if v62 = 0 then (K134 w) else (gjoin (fun K119 => if p6 = 2 then (K119 p7 w) else (K119 0 w)) (fun (y64 : Int64) (w : gW) => gbind (f_M_within g0 (p5 + y64) p2 5000 w) fun v67 w => if v67 = 0 then (K134 w) else (K135 1 w))))))) (fun (w : gW) => K135 0 w)) (fun (y5 : Int32) (w : gW) => (gck w a0 7).bind fun _ => gbind (f_M_isBody g0 a0 p1 w) fun v10 w => gjoin (fun K160 => if v10 = 0 then (K160 1 w) else (if y5 = 0 then (K160 2 w) else (K160 0 w))) (fun (y11 : Int32) (w : gW) => (gp w a0 7 0 (.int y11)).bind fun w => (gfI w a0 7 0).bind fun v13 => if v13 = 0 then ((gck w a0 7).bind fun _ => gbind (f_M_fresh g0 a0 p1 3 w) fun v20 w => if v20 = (-1) then (gguard ((0 : Int32) = 0 ∨ (0 : Int32) = 1) (some (.inr 0, w))) else ((gck w a0 7).bind fun _ => gbind (f_M_tell g0 a0 v20 0 p3 w) fun v26 w => (gck w a0 7).bind fun _ => gbind (f_M_tell g0 a0 v20 1 p4 w) fun v31 w => (gck w a0 7).bind fun _ => gbind (f_M_tell g0 a0 v20 2 p5 w) fun v36 w => (gck w a0 7).bind fun _ => gbind (f_M_tell g0 a0 v20 3 p2 w) fun v41 w => (gck w a0 7).bind fun _ => gbind (f_M_tell g0 a0 v20 4 (p6.toInt64) w) fun v46 w => (gck w a0 7).bind fun _ => gbind (f_M_tell g0 a0 v20 5 p7 w) fun v51 w => gguard ((1 : Int32) = 0 ∨ (1 : Int32) = 1) (some (.inr 1, w)))) else (gguard ((0 : Int32) = 0 ∨ (0 : Int32) = 1) (some (.inr 0, w))))))
set_option maxHeartbeats 4000000 in
set_option maxRecDepth 100000 in
theorem m_M_tube (l : Launch) (hst : l.stackTraces = false) (D : gD) (g0 : gG) (a0 : Nat) (p1 : Int32) (p2 : Int64) (p3 : Int64) (p4 : Int64) (p5 : Int64) (p6 : Int32) (p7 : Int64) (w : gW) (r : (String ⊕ Int32) × gW) (h : f_M_tube g0 a0 p1 p2 p3 p4 p5 p6 p7 w = some r) : gMet l y_M_tube (.code y_M_tube b_M_tube 15 (some .boolean)) rm_M_tube D g0 [.ref a0, .int p1, .long p2, .long p3, .long p4, .long p5, .int p6, .long p7] w (goI r) := by
  refine gw_ofZ (by decide +kernel) (Nat.le_of_ble_eq_true rfl) ?_
  intro p e s m below meth c ls args A Q hx hb hml hown hlocks hin hnt hT hK hZ hA hret hexc hthr hI hl
  obtain ⟨H, hH⟩ : ∃ H, H = s.heap := ⟨_, rfl⟩
  rw [← hH] at hI ⊢
  obtain ⟨locs, hlocs⟩ : ∃ z : List Loc, z = [] := ⟨_, rfl⟩
  rw [← hlocs] at hI ⊢
  have hl : lv_has ls 15 [(0, .ref a0), (1, .int p1), (2, .long p2), (4, .long p3), (6, .long p4), (8, .long p5), (10, .int p6), (11, .long p7)] := hl
  unfold f_M_tube at h
  refine lv_lload_n hx hb d_M_tube_0 rfl (lv_at hl 2 rfl) ?_
  refine lv_lconst (v := 1) hx hb d_M_tube_1 (by decide) ?_
  refine lv_ldc2 (v := 500) hx hb hown (hT _ wd_929 args) d_M_tube_2 ?_
  obtain ⟨u1, e2⟩ := gsome h
  refine gw_callI e2 h (gw_runS (As := [.long p2, .long 1, .long 500]) (rest := []) hx hb hml hown hT hK hZ hA hI (m_M_within l hst D g0 p2 1 500 w u1 e2) ce_M_within wd_885 ⟨by decide, by decide⟩ rfl rfl hl.1 rfl (lv_room (Nat.le_of_ble_eq_true rfl)) d_M_tube_5 ⟨(show 0 + 0 ≤ 0 by omega), (show 0 + 0 ≤ 0 by omega)⟩) hI hA hexc (show 0 + 0 ≤ 0 by omega) (show 0 + 0 ≤ 0 by omega) (fun v3 w H locs h hI => ?_)
  obtain ⟨K63, eK63, h⟩ := gj h
  have hK63 : ∀ (y4 : Int32) (w : gW) (H : Heap) (locs : List Loc) (ls : Array Slot), K63 y4 w = some r → gI D s A w H locs → lv_has ls 15 [(0, .ref a0), (1, .int p1), (2, .long p2), (4, .long p3), (6, .long p4), (8, .long p5), (10, .int p6), (11, .long p7)] → W p l e rm_M_tube s m args below meth c H locs 0 0 Q (F0 m 63 ls [.int y4]) := by
    intro y4 w H locs ls h hI hl
    have h := gk2 eK63 h
    refine lv_istore (lv' := [(13, .int y4), (0, .ref a0), (1, .int p1), (2, .long p2), (4, .long p3), (6, .long p4), (8, .long p5), (10, .int p6), (11, .long p7)]) hx hb d_M_tube_63 hl (by decide) rfl (fun ls hl => ?_)
    refine lv_iload hx hb d_M_tube_65 (lv_at hl 0 rfl) ?_
    obtain ⟨K135, eK135, h⟩ := gj h
    have hK135 : ∀ (y5 : Int32) (w : gW) (H : Heap) (locs : List Loc) (ls : Array Slot), K135 y5 w = some r → gI D s A w H locs → lv_has ls 15 [(0, .ref a0), (1, .int p1), (2, .long p2), (4, .long p3), (6, .long p4), (8, .long p5), (10, .int p6), (11, .long p7)] → W p l e rm_M_tube s m args below meth c H locs 0 0 Q (F0 m 135 ls [.int y5]) := by
      intro y5 w H locs ls h hI hl
      have h := gk2 eK135 h
      refine lv_istore (lv' := [(13, .int y5), (0, .ref a0), (1, .int p1), (2, .long p2), (4, .long p3), (6, .long p4), (8, .long p5), (10, .int p6), (11, .long p7)]) hx hb d_M_tube_135 hl (by decide) rfl (fun ls hl => ?_)
      refine lv_aload_n hx hb d_M_tube_137 rfl (lv_at hl 1 rfl) ?_
      refine lv_aload_n hx hb d_M_tube_138 rfl (lv_at hl 1 rfl) ?_
      refine lv_iload_n hx hb d_M_tube_139 rfl (lv_at hl 2 rfl) ?_
      obtain ⟨q8, e9, h⟩ := gb h
      obtain ⟨u6, e7⟩ := gsome h
      refine gw_callI e7 h (gw_runV (As := [.int p1]) (rest := [.ref a0]) hx hb hml hown hT hK hZ hA hI (ci := 7) rfl e9 (m_M_isBody l hst D g0 a0 p1 w u6 e7) ce_M_isBody wd_894 wd_17 ⟨by decide, by decide⟩ rfl rfl hl.1 rfl (lv_room (Nat.le_of_ble_eq_true rfl)) d_M_tube_140 ⟨(show 0 + 0 ≤ 0 by omega), (show 0 + 0 ≤ 0 by omega)⟩) hI hA hexc (show 0 + 0 ≤ 0 by omega) (show 0 + 0 ≤ 0 by omega) (fun v10 w H locs h hI => ?_)
      obtain ⟨K160, eK160, h⟩ := gj h
      have hK160 : ∀ (y11 : Int32) (w : gW) (H : Heap) (locs : List Loc) (ls : Array Slot), K160 y11 w = some r → gI D s A w H locs → lv_has ls 15 [(0, .ref a0), (1, .int p1), (2, .long p2), (4, .long p3), (6, .long p4), (8, .long p5), (10, .int p6), (11, .long p7)] → W p l e rm_M_tube s m args below meth c H locs 0 0 Q (F0 m 160 ls [.int y11, .ref a0]) := by
        intro y11 w H locs ls h hI hl
        have h := gk2 eK160 h
        obtain ⟨w, e12, h⟩ := gb h
        refine gw_put hx hb hT hown hK hI (ci := 7) rfl i_7 t_7 t_7_ok n_7 0 (by decide) wd_786 (fun _ h9 => h9) rfl (ty := .int) (by decide +kernel) rfl rfl e12 d_M_tube_160 (fun H locs hI => ?_)
        refine lv_aload_n hx hb d_M_tube_163 rfl (lv_at hl 0 rfl) ?_
        obtain ⟨v13, e14, h⟩ := gb h
        refine gw_getI hx hb hT hown hK hI (ci := 7) rfl i_7 0 (by decide) wd_786 (fun _ h9 => h9) e14 d_M_tube_164 ?_
        refine lv_if_eq (tgt := 172) hx hb d_M_tube_167 (by decide) (fun c15 => ?_) (fun c15 => ?_)
        · skip
          have h := git c15 h
          refine lv_aload_n hx hb d_M_tube_172 rfl (lv_at hl 0 rfl) ?_
          refine lv_iload_n hx hb d_M_tube_173 rfl (lv_at hl 1 rfl) ?_
          refine lv_iconst (v := 3) hx hb d_M_tube_174 (by decide) ?_
          obtain ⟨q18, e19, h⟩ := gb h
          obtain ⟨u16, e17⟩ := gsome h
          refine gw_callI e17 h (gw_runV (As := [.int p1, .int 3]) (rest := []) hx hb hml hown hT hK hZ hA hI (ci := 7) rfl e19 (m_M_fresh l hst D g0 a0 p1 3 w u16 e17) ce_M_fresh wd_898 wd_18 ⟨by decide, by decide⟩ rfl rfl hl.1 rfl (lv_room (Nat.le_of_ble_eq_true rfl)) d_M_tube_175 ⟨(show 0 + 0 ≤ 0 by omega), (show 0 + 0 ≤ 0 by omega)⟩) hI hA hexc (show 0 + 0 ≤ 0 by omega) (show 0 + 0 ≤ 0 by omega) (fun v20 w H locs h hI => ?_)
          refine lv_istore (lv' := [(14, .int v20), (0, .ref a0), (1, .int p1), (2, .long p2), (4, .long p3), (6, .long p4), (8, .long p5), (10, .int p6), (11, .long p7)]) hx hb d_M_tube_178 hl (by decide) rfl (fun ls hl => ?_)
          refine lv_iload hx hb d_M_tube_180 (lv_at hl 0 rfl) ?_
          refine lv_iconst (v := -1) hx hb d_M_tube_182 (by decide) ?_
          refine lv_icmp_ne (tgt := 188) hx hb d_M_tube_183 (by decide) (fun c21 => ?_) (fun c21 => ?_)
          · skip
            have h := gie c21 h
            refine lv_aload_n hx hb d_M_tube_188 rfl (lv_at hl 1 rfl) ?_
            refine lv_iload hx hb d_M_tube_189 (lv_at hl 0 rfl) ?_
            refine lv_iconst (v := 0) hx hb d_M_tube_191 (by decide) ?_
            refine lv_lload hx hb d_M_tube_192 (lv_at hl 4 rfl) ?_
            obtain ⟨q24, e25, h⟩ := gb h
            obtain ⟨u22, e23⟩ := gsome h
            refine gw_callV e23 h (gw_runV (As := [.int v20, .int 0, .long p3]) (rest := []) hx hb hml hown hT hK hZ hA hI (ci := 7) rfl e25 (m_M_tell l hst D g0 a0 v20 0 p3 w u22 e23) ce_M_tell wd_902 wd_19 ⟨by decide, by decide⟩ rfl rfl hl.1 rfl (lv_room (Nat.le_of_ble_eq_true rfl)) d_M_tube_194 ⟨(show 0 + 0 ≤ 0 by omega), (show 0 + 0 ≤ 0 by omega)⟩) hI hA hexc (show 0 + 0 ≤ 0 by omega) (show 0 + 0 ≤ 0 by omega) (fun v26 w H locs h hI => ?_)
            refine lv_aload_n hx hb d_M_tube_197 rfl (lv_at hl 1 rfl) ?_
            refine lv_iload hx hb d_M_tube_198 (lv_at hl 0 rfl) ?_
            refine lv_iconst (v := 1) hx hb d_M_tube_200 (by decide) ?_
            refine lv_lload hx hb d_M_tube_201 (lv_at hl 5 rfl) ?_
            obtain ⟨q29, e30, h⟩ := gb h
            obtain ⟨u27, e28⟩ := gsome h
            refine gw_callV e28 h (gw_runV (As := [.int v20, .int 1, .long p4]) (rest := []) hx hb hml hown hT hK hZ hA hI (ci := 7) rfl e30 (m_M_tell l hst D g0 a0 v20 1 p4 w u27 e28) ce_M_tell wd_902 wd_19 ⟨by decide, by decide⟩ rfl rfl hl.1 rfl (lv_room (Nat.le_of_ble_eq_true rfl)) d_M_tube_203 ⟨(show 0 + 0 ≤ 0 by omega), (show 0 + 0 ≤ 0 by omega)⟩) hI hA hexc (show 0 + 0 ≤ 0 by omega) (show 0 + 0 ≤ 0 by omega) (fun v31 w H locs h hI => ?_)
            refine lv_aload_n hx hb d_M_tube_206 rfl (lv_at hl 1 rfl) ?_
            refine lv_iload hx hb d_M_tube_207 (lv_at hl 0 rfl) ?_
            refine lv_iconst (v := 2) hx hb d_M_tube_209 (by decide) ?_
            refine lv_lload hx hb d_M_tube_210 (lv_at hl 6 rfl) ?_
            obtain ⟨q34, e35, h⟩ := gb h
            obtain ⟨u32, e33⟩ := gsome h
            refine gw_callV e33 h (gw_runV (As := [.int v20, .int 2, .long p5]) (rest := []) hx hb hml hown hT hK hZ hA hI (ci := 7) rfl e35 (m_M_tell l hst D g0 a0 v20 2 p5 w u32 e33) ce_M_tell wd_902 wd_19 ⟨by decide, by decide⟩ rfl rfl hl.1 rfl (lv_room (Nat.le_of_ble_eq_true rfl)) d_M_tube_212 ⟨(show 0 + 0 ≤ 0 by omega), (show 0 + 0 ≤ 0 by omega)⟩) hI hA hexc (show 0 + 0 ≤ 0 by omega) (show 0 + 0 ≤ 0 by omega) (fun v36 w H locs h hI => ?_)
            refine lv_aload_n hx hb d_M_tube_215 rfl (lv_at hl 1 rfl) ?_
            refine lv_iload hx hb d_M_tube_216 (lv_at hl 0 rfl) ?_
            refine lv_iconst (v := 3) hx hb d_M_tube_218 (by decide) ?_
            refine lv_lload_n hx hb d_M_tube_219 rfl (lv_at hl 3 rfl) ?_
            obtain ⟨q39, e40, h⟩ := gb h
            obtain ⟨u37, e38⟩ := gsome h
            refine gw_callV e38 h (gw_runV (As := [.int v20, .int 3, .long p2]) (rest := []) hx hb hml hown hT hK hZ hA hI (ci := 7) rfl e40 (m_M_tell l hst D g0 a0 v20 3 p2 w u37 e38) ce_M_tell wd_902 wd_19 ⟨by decide, by decide⟩ rfl rfl hl.1 rfl (lv_room (Nat.le_of_ble_eq_true rfl)) d_M_tube_220 ⟨(show 0 + 0 ≤ 0 by omega), (show 0 + 0 ≤ 0 by omega)⟩) hI hA hexc (show 0 + 0 ≤ 0 by omega) (show 0 + 0 ≤ 0 by omega) (fun v41 w H locs h hI => ?_)
            refine lv_aload_n hx hb d_M_tube_223 rfl (lv_at hl 1 rfl) ?_
            refine lv_iload hx hb d_M_tube_224 (lv_at hl 0 rfl) ?_
            refine lv_iconst (v := 4) hx hb d_M_tube_226 (by decide) ?_
            refine lv_iload hx hb d_M_tube_227 (lv_at hl 7 rfl) ?_
            refine lv_i2l (v := p6.toInt64) hx hb d_M_tube_229 rfl ?_
            obtain ⟨q44, e45, h⟩ := gb h
            obtain ⟨u42, e43⟩ := gsome h
            refine gw_callV e43 h (gw_runV (As := [.int v20, .int 4, .long (p6.toInt64)]) (rest := []) hx hb hml hown hT hK hZ hA hI (ci := 7) rfl e45 (m_M_tell l hst D g0 a0 v20 4 (p6.toInt64) w u42 e43) ce_M_tell wd_902 wd_19 ⟨by decide, by decide⟩ rfl rfl hl.1 rfl (lv_room (Nat.le_of_ble_eq_true rfl)) d_M_tube_230 ⟨(show 0 + 0 ≤ 0 by omega), (show 0 + 0 ≤ 0 by omega)⟩) hI hA hexc (show 0 + 0 ≤ 0 by omega) (show 0 + 0 ≤ 0 by omega) (fun v46 w H locs h hI => ?_)
            refine lv_aload_n hx hb d_M_tube_233 rfl (lv_at hl 1 rfl) ?_
            refine lv_iload hx hb d_M_tube_234 (lv_at hl 0 rfl) ?_
            refine lv_iconst (v := 5) hx hb d_M_tube_236 (by decide) ?_
            refine lv_lload hx hb d_M_tube_237 (lv_at hl 8 rfl) ?_
            obtain ⟨q49, e50, h⟩ := gb h
            obtain ⟨u47, e48⟩ := gsome h
            refine gw_callV e48 h (gw_runV (As := [.int v20, .int 5, .long p7]) (rest := []) hx hb hml hown hT hK hZ hA hI (ci := 7) rfl e50 (m_M_tell l hst D g0 a0 v20 5 p7 w u47 e48) ce_M_tell wd_902 wd_19 ⟨by decide, by decide⟩ rfl rfl hl.1 rfl (lv_room (Nat.le_of_ble_eq_true rfl)) d_M_tube_239 ⟨(show 0 + 0 ≤ 0 by omega), (show 0 + 0 ≤ 0 by omega)⟩) hI hA hexc (show 0 + 0 ≤ 0 by omega) (show 0 + 0 ≤ 0 by omega) (fun v51 w H locs h hI => ?_)
            refine lv_iconst (v := 1) hx hb d_M_tube_242 (by decide) ?_
            obtain ⟨g52, h⟩ := gif h
            exact W.widen (show 0 ≤ 0 by omega) (show 0 ≤ 0 by omega) (hret g52 0 _ (Option.some.inj h).symm _ _ _ _ d_M_tube_243 hI)
          · skip
            have h := git c21 h
            refine lv_iconst (v := 0) hx hb d_M_tube_186 (by decide) ?_
            obtain ⟨g53, h⟩ := gif h
            exact W.widen (show 0 ≤ 0 by omega) (show 0 ≤ 0 by omega) (hret g53 0 _ (Option.some.inj h).symm _ _ _ _ d_M_tube_187 hI)
        · skip
          have h := gie c15 h
          refine lv_iconst (v := 0) hx hb d_M_tube_170 (by decide) ?_
          obtain ⟨g54, h⟩ := gif h
          exact W.widen (show 0 ≤ 0 by omega) (show 0 ≤ 0 by omega) (hret g54 0 _ (Option.some.inj h).symm _ _ _ _ d_M_tube_171 hI)
      refine lv_if_ne (tgt := 150) hx hb d_M_tube_143 (by decide) (fun c55 => ?_) (fun c55 => ?_)
      · skip
        have h := gie c55 h
        refine lv_iload hx hb d_M_tube_150 (lv_at hl 0 rfl) ?_
        refine lv_if_eq (tgt := 159) hx hb d_M_tube_152 (by decide) (fun c56 => ?_) (fun c56 => ?_)
        · skip
          have h := git c56 h
          refine lv_iconst (v := 2) hx hb d_M_tube_159 (by decide) ?_
          exact hK160 _ w H locs ls h hI (lv_sub hl [1, 2, 3, 4, 5, 6, 7, 8] rfl)
        · skip
          have h := gie c56 h
          refine lv_iconst (v := 0) hx hb d_M_tube_155 (by decide) ?_
          refine lv_goto (tgt := 160) hx hb d_M_tube_156 (by decide) ?_
          exact hK160 _ w H locs ls h hI (lv_sub hl [1, 2, 3, 4, 5, 6, 7, 8] rfl)
      · skip
        have h := git c55 h
        refine lv_iconst (v := 1) hx hb d_M_tube_146 (by decide) ?_
        refine lv_goto (tgt := 160) hx hb d_M_tube_147 (by decide) ?_
        exact hK160 _ w H locs ls h hI (lv_sub hl [1, 2, 3, 4, 5, 6, 7, 8] rfl)
    obtain ⟨K134, eK134, h⟩ := gj h
    have hK134 : ∀ (w : gW) (H : Heap) (locs : List Loc) (ls : Array Slot), K134 w = some r → gI D s A w H locs → lv_has ls 15 [(0, .ref a0), (1, .int p1), (2, .long p2), (4, .long p3), (6, .long p4), (8, .long p5), (10, .int p6), (11, .long p7)] → W p l e rm_M_tube s m args below meth c H locs 0 0 Q (F0 m 134 ls []) := by
      intro w H locs ls h hI hl
      have h := gk1 eK134 h
      refine lv_iconst (v := 0) hx hb d_M_tube_134 (by decide) ?_
      exact hK135 _ w H locs ls h hI (lv_sub hl [0, 1, 2, 3, 4, 5, 6, 7] rfl)
    refine lv_if_eq (tgt := 134) hx hb d_M_tube_67 (by decide) (fun c57 => ?_) (fun c57 => ?_)
    · skip
      have h := git c57 h
      exact hK134 w H locs ls h hI (lv_sub hl [1, 2, 3, 4, 5, 6, 7, 8] rfl)
    · skip
      have h := gie c57 h
      refine lv_lload hx hb d_M_tube_70 (lv_at hl 4 rfl) ?_
      refine lv_iload hx hb d_M_tube_72 (lv_at hl 7 rfl) ?_
      obtain ⟨K83, eK83, h⟩ := gj h
      have hK83 : ∀ (y58 : Int64) (w : gW) (H : Heap) (locs : List Loc) (ls : Array Slot), K83 y58 w = some r → gI D s A w H locs → lv_has ls 15 [(0, .ref a0), (1, .int p1), (2, .long p2), (4, .long p3), (6, .long p4), (8, .long p5), (10, .int p6), (11, .long p7)] → W p l e rm_M_tube s m args below meth c H locs 0 0 Q (F0 m 83 ls [.long y58, .long p3]) := by
        intro y58 w H locs ls h hI hl
        have h := gk2 eK83 h
        refine lv_ladd hx hb d_M_tube_83 ?_
        refine lv_lload hx hb d_M_tube_84 (lv_at hl 4 rfl) ?_
        refine lv_iload hx hb d_M_tube_86 (lv_at hl 6 rfl) ?_
        refine lv_iconst (v := 1) hx hb d_M_tube_88 (by decide) ?_
        obtain ⟨K98, eK98, h⟩ := gj h
        have hK98 : ∀ (y59 : Int64) (w : gW) (H : Heap) (locs : List Loc) (ls : Array Slot), K98 y59 w = some r → gI D s A w H locs → lv_has ls 15 [(0, .ref a0), (1, .int p1), (2, .long p2), (4, .long p3), (6, .long p4), (8, .long p5), (10, .int p6), (11, .long p7)] → W p l e rm_M_tube s m args below meth c H locs 0 0 Q (F0 m 98 ls [.long y59, .long p4, .long (p3 + y58)]) := by
          intro y59 w H locs ls h hI hl
          have h := gk2 eK98 h
          refine lv_ladd hx hb d_M_tube_98 ?_
          obtain ⟨u60, e61⟩ := gsome h
          refine gw_callI e61 h (gw_runS (As := [.long (p3 + y58), .long (p4 + y59)]) (rest := []) hx hb hml hown hT hK hZ hA hI (m_M_isPlace l hst D g0 (p3 + y58) (p4 + y59) w u60 e61) ce_M_isPlace wd_880 ⟨by decide, by decide⟩ rfl rfl hl.1 rfl (lv_room (Nat.le_of_ble_eq_true rfl)) d_M_tube_99 ⟨(show 0 + 0 ≤ 0 by omega), (show 0 + 0 ≤ 0 by omega)⟩) hI hA hexc (show 0 + 0 ≤ 0 by omega) (show 0 + 0 ≤ 0 by omega) (fun v62 w H locs h hI => ?_)
          refine lv_if_eq (tgt := 134) hx hb d_M_tube_102 (by decide) (fun c63 => ?_) (fun c63 => ?_)
          · skip
            have h := git c63 h
            exact hK134 w H locs ls h hI (lv_sub hl [0, 1, 2, 3, 4, 5, 6, 7] rfl)
          · skip
            have h := gie c63 h
            refine lv_lload hx hb d_M_tube_105 (lv_at hl 5 rfl) ?_
            refine lv_iload hx hb d_M_tube_107 (lv_at hl 6 rfl) ?_
            refine lv_iconst (v := 2) hx hb d_M_tube_109 (by decide) ?_
            obtain ⟨K119, eK119, h⟩ := gj h
            have hK119 : ∀ (y64 : Int64) (w : gW) (H : Heap) (locs : List Loc) (ls : Array Slot), K119 y64 w = some r → gI D s A w H locs → lv_has ls 15 [(0, .ref a0), (1, .int p1), (2, .long p2), (4, .long p3), (6, .long p4), (8, .long p5), (10, .int p6), (11, .long p7)] → W p l e rm_M_tube s m args below meth c H locs 0 0 Q (F0 m 119 ls [.long y64, .long p5]) := by
              intro y64 w H locs ls h hI hl
              have h := gk2 eK119 h
              refine lv_ladd hx hb d_M_tube_119 ?_
              refine lv_lload_n hx hb d_M_tube_120 rfl (lv_at hl 2 rfl) ?_
              refine lv_ldc2 (v := 5000) hx hb hown (hT _ wd_884 args) d_M_tube_121 ?_
              obtain ⟨u65, e66⟩ := gsome h
              refine gw_callI e66 h (gw_runS (As := [.long (p5 + y64), .long p2, .long 5000]) (rest := []) hx hb hml hown hT hK hZ hA hI (m_M_within l hst D g0 (p5 + y64) p2 5000 w u65 e66) ce_M_within wd_885 ⟨by decide, by decide⟩ rfl rfl hl.1 rfl (lv_room (Nat.le_of_ble_eq_true rfl)) d_M_tube_124 ⟨(show 0 + 0 ≤ 0 by omega), (show 0 + 0 ≤ 0 by omega)⟩) hI hA hexc (show 0 + 0 ≤ 0 by omega) (show 0 + 0 ≤ 0 by omega) (fun v67 w H locs h hI => ?_)
              refine lv_if_eq (tgt := 134) hx hb d_M_tube_127 (by decide) (fun c68 => ?_) (fun c68 => ?_)
              · skip
                have h := git c68 h
                exact hK134 w H locs ls h hI (lv_sub hl [0, 1, 2, 3, 4, 5, 6, 7] rfl)
              · skip
                have h := gie c68 h
                refine lv_iconst (v := 1) hx hb d_M_tube_130 (by decide) ?_
                refine lv_goto (tgt := 135) hx hb d_M_tube_131 (by decide) ?_
                exact hK135 _ w H locs ls h hI (lv_sub hl [0, 1, 2, 3, 4, 5, 6, 7] rfl)
            refine lv_icmp_ne (tgt := 118) hx hb d_M_tube_110 (by decide) (fun c69 => ?_) (fun c69 => ?_)
            · skip
              have h := gie c69 h
              refine lv_lconst (v := 0) hx hb d_M_tube_118 (by decide) ?_
              exact hK119 _ w H locs ls h hI (lv_sub hl [0, 1, 2, 3, 4, 5, 6, 7] rfl)
            · skip
              have h := git c69 h
              refine lv_lload hx hb d_M_tube_113 (lv_at hl 7 rfl) ?_
              refine lv_goto (tgt := 119) hx hb d_M_tube_115 (by decide) ?_
              exact hK119 _ w H locs ls h hI (lv_sub hl [0, 1, 2, 3, 4, 5, 6, 7] rfl)
        refine lv_icmp_ne (tgt := 97) hx hb d_M_tube_89 (by decide) (fun c70 => ?_) (fun c70 => ?_)
        · skip
          have h := gie c70 h
          refine lv_lconst (v := 0) hx hb d_M_tube_97 (by decide) ?_
          exact hK98 _ w H locs ls h hI (lv_sub hl [0, 1, 2, 3, 4, 5, 6, 7] rfl)
        · skip
          have h := git c70 h
          refine lv_lload hx hb d_M_tube_92 (lv_at hl 7 rfl) ?_
          refine lv_goto (tgt := 98) hx hb d_M_tube_94 (by decide) ?_
          exact hK98 _ w H locs ls h hI (lv_sub hl [0, 1, 2, 3, 4, 5, 6, 7] rfl)
      refine lv_if_ne (tgt := 82) hx hb d_M_tube_74 (by decide) (fun c71 => ?_) (fun c71 => ?_)
      · skip
        have h := gie c71 h
        refine lv_lconst (v := 0) hx hb d_M_tube_82 (by decide) ?_
        exact hK83 _ w H locs ls h hI (lv_sub hl [1, 2, 3, 4, 5, 6, 7, 8] rfl)
      · skip
        have h := git c71 h
        refine lv_lload hx hb d_M_tube_77 (lv_at hl 8 rfl) ?_
        refine lv_goto (tgt := 83) hx hb d_M_tube_79 (by decide) ?_
        exact hK83 _ w H locs ls h hI (lv_sub hl [1, 2, 3, 4, 5, 6, 7, 8] rfl)
  obtain ⟨K62, eK62, h⟩ := gj h
  have hK62 : ∀ (w : gW) (H : Heap) (locs : List Loc) (ls : Array Slot), K62 w = some r → gI D s A w H locs → lv_has ls 15 [(0, .ref a0), (1, .int p1), (2, .long p2), (4, .long p3), (6, .long p4), (8, .long p5), (10, .int p6), (11, .long p7)] → W p l e rm_M_tube s m args below meth c H locs 0 0 Q (F0 m 62 ls []) := by
    intro w H locs ls h hI hl
    have h := gk1 eK62 h
    refine lv_iconst (v := 0) hx hb d_M_tube_62 (by decide) ?_
    exact hK63 _ w H locs ls h hI (lv_sub hl [0, 1, 2, 3, 4, 5, 6, 7] rfl)
  refine lv_if_eq (tgt := 62) hx hb d_M_tube_8 (by decide) (fun c72 => ?_) (fun c72 => ?_)
  · skip
    have h := git c72 h
    exact hK62 w H locs ls h hI (lv_sub hl [0, 1, 2, 3, 4, 5, 6, 7] rfl)
  · skip
    have h := gie c72 h
    refine lv_lload hx hb d_M_tube_11 (lv_at hl 3 rfl) ?_
    refine lv_lload hx hb d_M_tube_13 (lv_at hl 4 rfl) ?_
    obtain ⟨u73, e74⟩ := gsome h
    refine gw_callI e74 h (gw_runS (As := [.long p3, .long p4]) (rest := []) hx hb hml hown hT hK hZ hA hI (m_M_isPlace l hst D g0 p3 p4 w u73 e74) ce_M_isPlace wd_880 ⟨by decide, by decide⟩ rfl rfl hl.1 rfl (lv_room (Nat.le_of_ble_eq_true rfl)) d_M_tube_15 ⟨(show 0 + 0 ≤ 0 by omega), (show 0 + 0 ≤ 0 by omega)⟩) hI hA hexc (show 0 + 0 ≤ 0 by omega) (show 0 + 0 ≤ 0 by omega) (fun v75 w H locs h hI => ?_)
    refine lv_if_eq (tgt := 62) hx hb d_M_tube_18 (by decide) (fun c76 => ?_) (fun c76 => ?_)
    · skip
      have h := git c76 h
      exact hK62 w H locs ls h hI (lv_sub hl [0, 1, 2, 3, 4, 5, 6, 7] rfl)
    · skip
      have h := gie c76 h
      refine lv_lload hx hb d_M_tube_21 (lv_at hl 5 rfl) ?_
      refine lv_lload_n hx hb d_M_tube_23 rfl (lv_at hl 2 rfl) ?_
      refine lv_ldc2 (v := 5000) hx hb hown (hT _ wd_884 args) d_M_tube_24 ?_
      obtain ⟨u77, e78⟩ := gsome h
      refine gw_callI e78 h (gw_runS (As := [.long p5, .long p2, .long 5000]) (rest := []) hx hb hml hown hT hK hZ hA hI (m_M_within l hst D g0 p5 p2 5000 w u77 e78) ce_M_within wd_885 ⟨by decide, by decide⟩ rfl rfl hl.1 rfl (lv_room (Nat.le_of_ble_eq_true rfl)) d_M_tube_27 ⟨(show 0 + 0 ≤ 0 by omega), (show 0 + 0 ≤ 0 by omega)⟩) hI hA hexc (show 0 + 0 ≤ 0 by omega) (show 0 + 0 ≤ 0 by omega) (fun v79 w H locs h hI => ?_)
      refine lv_if_eq (tgt := 62) hx hb d_M_tube_30 (by decide) (fun c80 => ?_) (fun c80 => ?_)
      · skip
        have h := git c80 h
        exact hK62 w H locs ls h hI (lv_sub hl [0, 1, 2, 3, 4, 5, 6, 7] rfl)
      · skip
        have h := gie c80 h
        refine lv_iload hx hb d_M_tube_33 (lv_at hl 6 rfl) ?_
        refine lv_if_lt (tgt := 62) hx hb d_M_tube_35 (by decide) (fun c81 => ?_) (fun c81 => ?_)
        · skip
          have h := git c81 h
          exact hK62 w H locs ls h hI (lv_sub hl [0, 1, 2, 3, 4, 5, 6, 7] rfl)
        · skip
          have h := gie c81 h
          refine lv_iload hx hb d_M_tube_38 (lv_at hl 6 rfl) ?_
          refine lv_iconst (v := 3) hx hb d_M_tube_40 (by decide) ?_
          refine lv_icmp_ge (tgt := 62) hx hb d_M_tube_41 (by decide) (fun c82 => ?_) (fun c82 => ?_)
          · skip
            have h := git c82 h
            exact hK62 w H locs ls h hI (lv_sub hl [0, 1, 2, 3, 4, 5, 6, 7] rfl)
          · skip
            have h := gie c82 h
            refine lv_lload hx hb d_M_tube_44 (lv_at hl 7 rfl) ?_
            refine lv_ldc2 (v := (-10000)) hx hb hown (hT _ wd_930 args) d_M_tube_46 ?_
            refine lv_ldc2 (v := 10000) hx hb hown (hT _ wd_931 args) d_M_tube_49 ?_
            obtain ⟨u83, e84⟩ := gsome h
            refine gw_callI e84 h (gw_runS (As := [.long p7, .long (-10000), .long 10000]) (rest := []) hx hb hml hown hT hK hZ hA hI (m_M_within l hst D g0 p7 (-10000) 10000 w u83 e84) ce_M_within wd_885 ⟨by decide, by decide⟩ rfl rfl hl.1 rfl (lv_room (Nat.le_of_ble_eq_true rfl)) d_M_tube_52 ⟨(show 0 + 0 ≤ 0 by omega), (show 0 + 0 ≤ 0 by omega)⟩) hI hA hexc (show 0 + 0 ≤ 0 by omega) (show 0 + 0 ≤ 0 by omega) (fun v85 w H locs h hI => ?_)
            refine lv_if_eq (tgt := 62) hx hb d_M_tube_55 (by decide) (fun c86 => ?_) (fun c86 => ?_)
            · skip
              have h := git c86 h
              exact hK62 w H locs ls h hI (lv_sub hl [0, 1, 2, 3, 4, 5, 6, 7] rfl)
            · skip
              have h := gie c86 h
              refine lv_iconst (v := 1) hx hb d_M_tube_58 (by decide) ?_
              refine lv_goto (tgt := 63) hx hb d_M_tube_59 (by decide) ?_
              exact hK63 _ w H locs ls h hI (lv_sub hl [0, 1, 2, 3, 4, 5, 6, 7] rfl)

abbrev b_M_thrown : ByteArray := prog_9_method_2_code
def y_M_thrown : MethodName := ⟨"BodySolidsModel", "thrown", "()I"⟩
theorem d_M_thrown_0 : decode b_M_thrown 0 = .ok (.aload_n 0, 1) := by decide +kernel
theorem d_M_thrown_1 : decode b_M_thrown 1 = .ok (.getfield 80, 3) := by decide +kernel
theorem d_M_thrown_4 : decode b_M_thrown 4 = .ok (.ireturn, 1) := by decide +kernel
abbrev rm_M_thrown : Room := { frames := 0, cells := 0, slots := 0, locals := 0 }
theorem ce_M_thrown : gCe y_M_thrown (.code y_M_thrown b_M_thrown 1 (some .int)) 1 0 false := gCe.code wd_871 wd_57 wd_869 (by decide) (by decide +kernel)
def f_M_thrown (g0 : gG) (a0 : Nat) (w : gW) : gX Int32 := (gfI w a0 7 0).bind fun v1 => some (.inr v1, w)
set_option maxHeartbeats 4000000 in
set_option maxRecDepth 100000 in
theorem m_M_thrown (l : Launch) (hst : l.stackTraces = false) (D : gD) (g0 : gG) (a0 : Nat) (w : gW) (r : (String ⊕ Int32) × gW) (h : f_M_thrown g0 a0 w = some r) : gMet l y_M_thrown (.code y_M_thrown b_M_thrown 1 (some .int)) rm_M_thrown D g0 [.ref a0] w (goI r) := by
  refine gw_ofI (by decide +kernel) (Nat.le_of_ble_eq_true rfl) ?_
  intro p e s m below meth c ls args A Q hx hb hml hown hlocks hin hnt hT hK hZ hA hret hexc hthr hI hl
  obtain ⟨H, hH⟩ : ∃ H, H = s.heap := ⟨_, rfl⟩
  rw [← hH] at hI ⊢
  obtain ⟨locs, hlocs⟩ : ∃ z : List Loc, z = [] := ⟨_, rfl⟩
  rw [← hlocs] at hI ⊢
  have hl : lv_has ls 1 [(0, .ref a0)] := hl
  unfold f_M_thrown at h
  refine lv_aload_n hx hb d_M_thrown_0 rfl (lv_at hl 0 rfl) ?_
  obtain ⟨v1, e2, h⟩ := gb h
  refine gw_getI hx hb hT hown hK hI (ci := 7) rfl i_7 0 (by decide) wd_786 (fun _ h9 => h9) e2 d_M_thrown_1 ?_
  exact W.widen (show 0 ≤ 0 by omega) (show 0 ≤ 0 by omega) (hret _ _ (Option.some.inj h).symm _ _ _ _ d_M_thrown_4 hI)

abbrev b_By_addAllOf : ByteArray := prog_2_method_4_code
def y_By_addAllOf : MethodName := ⟨"BodySolids$Body", "addAllOf", "(LBodySolids$Body;)V"⟩
theorem d_By_addAllOf_0 : decode b_By_addAllOf 0 = .ok (.iconst 0, 1) := by decide +kernel
theorem d_By_addAllOf_1 : decode b_By_addAllOf 1 = .ok (.istore_n 2, 1) := by decide +kernel
theorem d_By_addAllOf_2 : decode b_By_addAllOf 2 = .ok (.iload_n 2, 1) := by decide +kernel
theorem d_By_addAllOf_3 : decode b_By_addAllOf 3 = .ok (.aload_n 1, 1) := by decide +kernel
theorem d_By_addAllOf_4 : decode b_By_addAllOf 4 = .ok (.getfield 12, 3) := by decide +kernel
theorem d_By_addAllOf_7 : decode b_By_addAllOf 7 = .ok (.invokevirtual 22, 3) := by decide +kernel
theorem d_By_addAllOf_10 : decode b_By_addAllOf 10 = .ok (.if_icmp .ge 28, 3) := by decide +kernel
theorem d_By_addAllOf_13 : decode b_By_addAllOf 13 = .ok (.aload_n 0, 1) := by decide +kernel
theorem d_By_addAllOf_14 : decode b_By_addAllOf 14 = .ok (.getfield 12, 3) := by decide +kernel
theorem d_By_addAllOf_17 : decode b_By_addAllOf 17 = .ok (.aload_n 1, 1) := by decide +kernel
theorem d_By_addAllOf_18 : decode b_By_addAllOf 18 = .ok (.getfield 12, 3) := by decide +kernel
theorem d_By_addAllOf_21 : decode b_By_addAllOf 21 = .ok (.iload_n 2, 1) := by decide +kernel
theorem d_By_addAllOf_22 : decode b_By_addAllOf 22 = .ok (.invokevirtual 30, 3) := by decide +kernel
theorem d_By_addAllOf_25 : decode b_By_addAllOf 25 = .ok (.checkcast 34, 3) := by decide +kernel
theorem d_By_addAllOf_28 : decode b_By_addAllOf 28 = .ok (.invokevirtual 26, 3) := by decide +kernel
theorem d_By_addAllOf_31 : decode b_By_addAllOf 31 = .ok (.pop, 1) := by decide +kernel
theorem d_By_addAllOf_32 : decode b_By_addAllOf 32 = .ok (.iinc 2 1, 3) := by decide +kernel
theorem d_By_addAllOf_35 : decode b_By_addAllOf 35 = .ok (.goto (-33), 3) := by decide +kernel
theorem d_By_addAllOf_38 : decode b_By_addAllOf 38 = .ok (.aload_n 0, 1) := by decide +kernel
theorem d_By_addAllOf_39 : decode b_By_addAllOf 39 = .ok (.dup, 1) := by decide +kernel
theorem d_By_addAllOf_40 : decode b_By_addAllOf 40 = .ok (.getfield 18, 3) := by decide +kernel
theorem d_By_addAllOf_43 : decode b_By_addAllOf 43 = .ok (.aload_n 1, 1) := by decide +kernel
theorem d_By_addAllOf_44 : decode b_By_addAllOf 44 = .ok (.getfield 18, 3) := by decide +kernel
theorem d_By_addAllOf_47 : decode b_By_addAllOf 47 = .ok (.ladd, 1) := by decide +kernel
theorem d_By_addAllOf_48 : decode b_By_addAllOf 48 = .ok (.putfield 18, 3) := by decide +kernel
theorem d_By_addAllOf_51 : decode b_By_addAllOf 51 = .ok (.return_, 1) := by decide +kernel
abbrev rm_By_addAllOf : Room := { frames := 7, cells := 13, slots := 832, locals := 179 }
theorem ce_By_addAllOf : gCe y_By_addAllOf (.code y_By_addAllOf b_By_addAllOf 3 none) 3 1 false := gCe.code wd_632 wd_58 wd_630 (by decide) (by decide +kernel)
def f_By_addAllOf_L2 (g0 : gG) (c0 : Nat) (c1 : Nat) (K38 : gW → gX Unit) : Nat → Int32 → gW → gX Unit
  | 0, _, _ => none
  | n + 1, z2, w => (gfA w c1 4 0).bind fun v6 => (gck w v6 1).bind fun _ => gbind (f_AL_size g0 v6 w) fun v12 w => if v12 ≤ z2 then (K38 w) else ((gfA w c0 4 0).bind fun v14 => (gfA w c1 4 0).bind fun v16 => (gck w v16 1).bind fun _ => gbind (f_AL_get g0 v16 z2 w) fun v22 w => (gck w v22 3).bind fun _ => (gck w v14 1).bind fun _ => gbind (f_AL_add g0 v14 v22 w) fun v29 w => f_By_addAllOf_L2 g0 c0 c1 K38 n (z2 + 1) w)
def f_By_addAllOf (g0 : gG) (a0 : Nat) (a1 : Nat) (w : gW) : gX Unit := gjoin (fun K38 => f_By_addAllOf_L2 g0 a0 a1 K38 13 0 w) (fun (w : gW) => (gfJ w a0 4 1).bind fun v1 => (gfJ w a1 4 1).bind fun v3 => (gp w a0 4 1 (.long (v1 + v3))).bind fun w => some (.inr (), w))
set_option maxHeartbeats 4000000 in
set_option maxRecDepth 100000 in
theorem m_By_addAllOf (l : Launch) (hst : l.stackTraces = false) (D : gD) (g0 : gG) (a0 : Nat) (a1 : Nat) (w : gW) (r : (String ⊕ Unit) × gW) (h : f_By_addAllOf g0 a0 a1 w = some r) : gMet l y_By_addAllOf (.code y_By_addAllOf b_By_addAllOf 3 none) rm_By_addAllOf D g0 [.ref a0, .ref a1] w (goV r) := by
  refine gw_ofV (by decide +kernel) (Nat.le_of_ble_eq_true rfl) ?_
  intro p e s m below meth c ls args A Q hx hb hml hown hlocks hin hnt hT hK hZ hA hret hexc hthr hI hl
  obtain ⟨H, hH⟩ : ∃ H, H = s.heap := ⟨_, rfl⟩
  rw [← hH] at hI ⊢
  obtain ⟨locs, hlocs⟩ : ∃ z : List Loc, z = [] := ⟨_, rfl⟩
  rw [← hlocs] at hI ⊢
  have hl : lv_has ls 3 [(0, .ref a0), (1, .ref a1)] := hl
  unfold f_By_addAllOf at h
  refine lv_iconst (v := 0) hx hb d_By_addAllOf_0 (by decide) ?_
  refine lv_istore_n (lv' := [(2, .int 0), (0, .ref a0), (1, .ref a1)]) hx hb d_By_addAllOf_1 rfl hl (by decide) rfl (fun ls hl => ?_)
  obtain ⟨K38, eK38, h⟩ := gj h
  have hK38 : ∀ (w : gW) (H : Heap) (locs : List Loc) (ls : Array Slot), K38 w = some r → gI D s A w H locs → lv_has ls 3 [(0, .ref a0), (1, .ref a1)] → W p l e rm_By_addAllOf s m args below meth c H locs 13 832 Q (F0 m 38 ls []) := by
    intro w H locs ls h hI hl
    have h := gk1 eK38 h
    refine lv_aload_n hx hb d_By_addAllOf_38 rfl (lv_at hl 0 rfl) ?_
    refine lv_dup hx hb d_By_addAllOf_39 rfl ?_
    obtain ⟨v1, e2, h⟩ := gb h
    refine gw_getJ hx hb hT hown hK hI (ci := 4) rfl i_4 1 (by decide) wd_239 (fun _ h9 => h9) e2 d_By_addAllOf_40 ?_
    refine lv_aload_n hx hb d_By_addAllOf_43 rfl (lv_at hl 1 rfl) ?_
    obtain ⟨v3, e4, h⟩ := gb h
    refine gw_getJ hx hb hT hown hK hI (ci := 4) rfl i_4 1 (by decide) wd_239 (fun _ h9 => h9) e4 d_By_addAllOf_44 ?_
    refine lv_ladd hx hb d_By_addAllOf_47 ?_
    obtain ⟨w, e5, h⟩ := gb h
    refine gw_put hx hb hT hown hK hI (ci := 4) rfl i_4 t_4 t_4_ok n_4 1 (by decide) wd_239 (fun _ h9 => h9) rfl (ty := .long) (by decide +kernel) rfl rfl e5 d_By_addAllOf_48 (fun H locs hI => ?_)
    exact W.widen (show 13 ≤ 13 by omega) (show 832 ≤ 832 by omega) (hret _ _ (Option.some.inj h).symm _ _ _ _ d_By_addAllOf_51 hI)
  have hL2 : ∀ (n : Nat), n ≤ 13 → ∀ (z6 : Int32) (w : gW) (H : Heap) (locs : List Loc) (ls : Array Slot), f_By_addAllOf_L2 g0 a0 a1 K38 n z6 w = some r → gI D s A w H locs → lv_has ls 3 [(0, .ref a0), (1, .ref a1), (2, .int z6)] → W p l e rm_By_addAllOf s m args below meth c H locs (13 - n * 1) (832 - n * 64) Q (F0 m 2 ls []) := by
    intro n
    induction n with
    | zero => intro hn z6 w H locs ls h hI hl; exact absurd h (by simp [f_By_addAllOf_L2])
    | succ n ih =>
      intro hn z6 w H locs ls h hI hl
      rw [f_By_addAllOf_L2] at h
      refine lv_iload_n hx hb d_By_addAllOf_2 rfl (lv_at hl 2 rfl) ?_
      refine lv_aload_n hx hb d_By_addAllOf_3 rfl (lv_at hl 1 rfl) ?_
      obtain ⟨v7, e8, h⟩ := gb h
      refine gw_getA hx hb hT hown hK hI (ci := 4) rfl i_4 0 (by decide) wd_236 (fun _ h9 => h9) e8 d_By_addAllOf_4 ?_
      obtain ⟨q11, e12, h⟩ := gb h
      obtain ⟨u9, e10⟩ := gsome h
      refine gw_callI e10 h (gw_runV (As := []) (rest := [.int z6]) hx hb hml hown hT hK hZ hA hI (ci := 1) rfl e12 (m_AL_size l hst D g0 v7 w u9 e10) ce_AL_size wd_545 wd_226 ⟨by decide, by decide⟩ rfl rfl hl.1 rfl (lv_room (Nat.le_of_ble_eq_true rfl)) d_By_addAllOf_7 ⟨(show (13 - (n + 1) * 1) + 0 ≤ 13 by omega), (show (832 - (n + 1) * 64) + 0 ≤ 832 by omega)⟩) hI hA hexc (show (13 - (n + 1) * 1) + 0 ≤ 13 by omega) (show (832 - (n + 1) * 64) + 0 ≤ 832 by omega) (fun v13 w H locs h hI => ?_)
      refine lv_icmp_ge (tgt := 38) hx hb d_By_addAllOf_10 (by decide) (fun c14 => ?_) (fun c14 => ?_)
      · skip
        have h := git c14 h
        refine W.widen (k := 13) (n := 832) (show (13 - (n + 1) * 1) ≤ 13 by omega) (show (832 - (n + 1) * 64) ≤ 832 by omega) ?_
        exact hK38 w H locs ls h hI (lv_sub hl [0, 1] rfl)
      · skip
        have h := gie c14 h
        refine lv_aload_n hx hb d_By_addAllOf_13 rfl (lv_at hl 0 rfl) ?_
        obtain ⟨v15, e16, h⟩ := gb h
        refine gw_getA hx hb hT hown hK hI (ci := 4) rfl i_4 0 (by decide) wd_236 (fun _ h9 => h9) e16 d_By_addAllOf_14 ?_
        refine lv_aload_n hx hb d_By_addAllOf_17 rfl (lv_at hl 1 rfl) ?_
        obtain ⟨v17, e18, h⟩ := gb h
        refine gw_getA hx hb hT hown hK hI (ci := 4) rfl i_4 0 (by decide) wd_236 (fun _ h9 => h9) e18 d_By_addAllOf_18 ?_
        refine lv_iload_n hx hb d_By_addAllOf_21 rfl (lv_at hl 2 rfl) ?_
        obtain ⟨q21, e22, h⟩ := gb h
        obtain ⟨u19, e20⟩ := gsome h
        refine gw_callA e20 h (gw_runV (As := [.int z6]) (rest := [.ref v15]) hx hb hml hown hT hK hZ hA hI (ci := 1) rfl e22 (m_AL_get l hst D g0 v17 z6 w u19 e20) ce_AL_get wd_633 wd_323 ⟨by decide, by decide⟩ rfl rfl hl.1 rfl (lv_room (Nat.le_of_ble_eq_true rfl)) d_By_addAllOf_22 ⟨(show (13 - (n + 1) * 1) + 0 ≤ 13 by omega), (show (832 - (n + 1) * 64) + 0 ≤ 832 by omega)⟩) hI hA hexc (show (13 - (n + 1) * 1) + 0 ≤ 13 by omega) (show (832 - (n + 1) * 64) + 0 ≤ 832 by omega) (fun v23 w H locs h hI => ?_)
        obtain ⟨q25, e24, h⟩ := gb h
        refine gw_cast hx hb hT hown hK hI wd_634 (ci := 3) rfl wd_1124 e24 d_By_addAllOf_25 ?_
        obtain ⟨q28, e29, h⟩ := gb h
        obtain ⟨u26, e27⟩ := gsome h
        refine gw_callI e27 h (gw_runV (As := [.ref v23]) (rest := []) hx hb hml hown hT hK hZ hA hI (ci := 1) rfl e29 (m_AL_add l hst D g0 v15 v23 w u26 e27) ce_AL_add wd_559 wd_252 ⟨by decide, by decide⟩ rfl rfl hl.1 rfl (lv_room (Nat.le_of_ble_eq_true rfl)) d_By_addAllOf_28 ⟨(show (13 - (n + 1) * 1) + 1 ≤ 13 by omega), (show (832 - (n + 1) * 64) + 64 ≤ 832 by omega)⟩) hI hA hexc (show (13 - (n + 1) * 1) + 1 ≤ 13 by omega) (show (832 - (n + 1) * 64) + 64 ≤ 832 by omega) (fun v30 w H locs h hI => ?_)
        refine W.widen (k := ((13 - (n + 1) * 1) + 1)) (n := ((832 - (n + 1) * 64) + 64)) (show (13 - (n + 1) * 1) + 1 ≤ ((13 - (n + 1) * 1) + 1) by omega) (show (832 - (n + 1) * 64) + 64 ≤ ((832 - (n + 1) * 64) + 64) by omega) ?_
        refine lv_pop hx hb d_By_addAllOf_31 rfl ?_
        refine lv_iinc (v := z6 + 1) (lv' := [(2, .int (z6 + 1)), (0, .ref a0), (1, .ref a1)]) hx hb d_By_addAllOf_32 hl (k := 2) rfl rfl (by decide) rfl (fun ls hl => ?_)
        refine lv_goto (tgt := 2) hx hb d_By_addAllOf_35 (by decide) ?_
        refine W.widen (k := (13 - n * 1)) (n := (832 - n * 64)) (show ((13 - (n + 1) * 1) + 1) ≤ (13 - n * 1) by omega) (show ((832 - (n + 1) * 64) + 64) ≤ (832 - n * 64) by omega) ?_
        exact ih (by omega) _ w H locs ls h hI (lv_sub hl [1, 2, 0] rfl)
  refine W.widen (k := (13 - 13 * 1)) (n := (832 - 13 * 64)) (show 0 ≤ (13 - 13 * 1) by omega) (show 0 ≤ (832 - 13 * 64) by omega) ?_
  exact hL2 13 (Nat.le_refl _) _ w H locs ls h hI (lv_sub hl [1, 2, 0] rfl)

abbrev b_B_join : ByteArray := prog_1_method_8_code
def y_B_join : MethodName := ⟨"BodySolids", "join", "(II)I"⟩
theorem d_B_join_0 : decode b_B_join 0 = .ok (.aload_n 0, 1) := by decide +kernel
theorem d_B_join_1 : decode b_B_join 1 = .ok (.iload_n 1, 1) := by decide +kernel
theorem d_B_join_2 : decode b_B_join 2 = .ok (.invokevirtual 79, 3) := by decide +kernel
theorem d_B_join_5 : decode b_B_join 5 = .ok (.astore_n 3, 1) := by decide +kernel
theorem d_B_join_6 : decode b_B_join 6 = .ok (.aload_n 0, 1) := by decide +kernel
theorem d_B_join_7 : decode b_B_join 7 = .ok (.iload_n 2, 1) := by decide +kernel
theorem d_B_join_8 : decode b_B_join 8 = .ok (.invokevirtual 79, 3) := by decide +kernel
theorem d_B_join_11 : decode b_B_join 11 = .ok (.astore 4, 2) := by decide +kernel
theorem d_B_join_13 : decode b_B_join 13 = .ok (.aload_n 0, 1) := by decide +kernel
theorem d_B_join_14 : decode b_B_join 14 = .ok (.getfield 27, 3) := by decide +kernel
theorem d_B_join_17 : decode b_B_join 17 = .ok (.invokevirtual 68, 3) := by decide +kernel
theorem d_B_join_20 : decode b_B_join 20 = .ok (.bipush 30, 2) := by decide +kernel
theorem d_B_join_22 : decode b_B_join 22 = .ok (.if_icmp .ge 24, 3) := by decide +kernel
theorem d_B_join_25 : decode b_B_join 25 = .ok (.aload_n 3, 1) := by decide +kernel
theorem d_B_join_26 : decode b_B_join 26 = .ok (.getfield 154, 3) := by decide +kernel
theorem d_B_join_29 : decode b_B_join 29 = .ok (.invokevirtual 68, 3) := by decide +kernel
theorem d_B_join_32 : decode b_B_join 32 = .ok (.aload 4, 2) := by decide +kernel
theorem d_B_join_34 : decode b_B_join 34 = .ok (.getfield 154, 3) := by decide +kernel
theorem d_B_join_37 : decode b_B_join 37 = .ok (.invokevirtual 68, 3) := by decide +kernel
theorem d_B_join_40 : decode b_B_join 40 = .ok (.iadd, 1) := by decide +kernel
theorem d_B_join_41 : decode b_B_join 41 = .ok (.bipush 12, 2) := by decide +kernel
theorem d_B_join_43 : decode b_B_join 43 = .ok (.if_icmp .le 5, 3) := by decide +kernel
theorem d_B_join_46 : decode b_B_join 46 = .ok (.iconst (-1), 1) := by decide +kernel
theorem d_B_join_47 : decode b_B_join 47 = .ok (.ireturn, 1) := by decide +kernel
theorem d_B_join_48 : decode b_B_join 48 = .ok (.new 72, 3) := by decide +kernel
theorem d_B_join_51 : decode b_B_join 51 = .ok (.dup, 1) := by decide +kernel
theorem d_B_join_52 : decode b_B_join 52 = .ok (.invokespecial 74, 3) := by decide +kernel
theorem d_B_join_55 : decode b_B_join 55 = .ok (.astore 5, 2) := by decide +kernel
theorem d_B_join_57 : decode b_B_join 57 = .ok (.aload 5, 2) := by decide +kernel
theorem d_B_join_59 : decode b_B_join 59 = .ok (.aload_n 3, 1) := by decide +kernel
theorem d_B_join_60 : decode b_B_join 60 = .ok (.invokevirtual 157, 3) := by decide +kernel
theorem d_B_join_63 : decode b_B_join 63 = .ok (.aload 5, 2) := by decide +kernel
theorem d_B_join_65 : decode b_B_join 65 = .ok (.aload 4, 2) := by decide +kernel
theorem d_B_join_67 : decode b_B_join 67 = .ok (.invokevirtual 157, 3) := by decide +kernel
theorem d_B_join_70 : decode b_B_join 70 = .ok (.aload_n 0, 1) := by decide +kernel
theorem d_B_join_71 : decode b_B_join 71 = .ok (.aload 5, 2) := by decide +kernel
theorem d_B_join_73 : decode b_B_join 73 = .ok (.invokevirtual 75, 3) := by decide +kernel
theorem d_B_join_76 : decode b_B_join 76 = .ok (.ireturn, 1) := by decide +kernel
abbrev rm_B_join : Room := { frames := 9, cells := 31, slots := 1745, locals := 201 }
theorem ce_B_join : gCe y_B_join (.code y_B_join b_B_join 6 (some .int)) 6 2 false := gCe.code wd_628 wd_49 wd_626 (by decide) (by decide +kernel)
def f_B_join (g0 : gG) (a0 : Nat) (p1 : Int32) (p2 : Int32) (w : gW) : gX Int32 := (gck w a0 0).bind fun _ => gbind (f_B_bodyAt g0 a0 p1 w) fun v5 w => (gck w a0 0).bind fun _ => gbind (f_B_bodyAt g0 a0 p2 w) fun v10 w => (gfA w a0 0 1).bind fun v11 => (gck w v11 1).bind fun _ => gbind (f_AL_size g0 v11 w) fun v17 w => gjoin (fun K46 => if 30 ≤ v17 then (K46 w) else ((gfA w v5 4 0).bind fun v19 => (gck w v19 1).bind fun _ => gbind (f_AL_size g0 v19 w) fun v25 w => (gfA w v10 4 0).bind fun v26 => (gck w v26 1).bind fun _ => gbind (f_AL_size g0 v26 w) fun v32 w => if (v25 + v32) ≤ 12 then (gb2f (gnw w 4 [.null, .long 0]) fun o34 w => gbind (f_By_init g0 o34 w) fun v38 w => (gck w o34 4).bind fun _ => gbind (f_By_addAllOf g0 o34 v5 w) fun v43 w => (gck w o34 4).bind fun _ => gbind (f_By_addAllOf g0 o34 v10 w) fun v48 w => (gck w a0 0).bind fun _ => gbind (f_B_addBody g0 a0 o34 w) fun v53 w => some (.inr v53, w)) else (K46 w))) (fun (w : gW) => some (.inr (-1), w))
set_option maxHeartbeats 4000000 in
set_option maxRecDepth 100000 in
theorem m_B_join (l : Launch) (hst : l.stackTraces = false) (D : gD) (g0 : gG) (a0 : Nat) (p1 : Int32) (p2 : Int32) (w : gW) (r : (String ⊕ Int32) × gW) (h : f_B_join g0 a0 p1 p2 w = some r) : gMet l y_B_join (.code y_B_join b_B_join 6 (some .int)) rm_B_join D g0 [.ref a0, .int p1, .int p2] w (goI r) := by
  refine gw_ofI (by decide +kernel) (Nat.le_of_ble_eq_true rfl) ?_
  intro p e s m below meth c ls args A Q hx hb hml hown hlocks hin hnt hT hK hZ hA hret hexc hthr hI hl
  obtain ⟨H, hH⟩ : ∃ H, H = s.heap := ⟨_, rfl⟩
  rw [← hH] at hI ⊢
  obtain ⟨locs, hlocs⟩ : ∃ z : List Loc, z = [] := ⟨_, rfl⟩
  rw [← hlocs] at hI ⊢
  have hl : lv_has ls 6 [(0, .ref a0), (1, .int p1), (2, .int p2)] := hl
  unfold f_B_join at h
  refine lv_aload_n hx hb d_B_join_0 rfl (lv_at hl 0 rfl) ?_
  refine lv_iload_n hx hb d_B_join_1 rfl (lv_at hl 1 rfl) ?_
  obtain ⟨q3, e4, h⟩ := gb h
  obtain ⟨u1, e2⟩ := gsome h
  refine gw_callA e2 h (gw_runV (As := [.int p1]) (rest := []) hx hb hml hown hT hK hZ hA hI (ci := 0) rfl e4 (m_B_bodyAt l hst D g0 a0 p1 w u1 e2) ce_B_bodyAt wd_436 wd_7 ⟨by decide, by decide⟩ rfl rfl hl.1 rfl (lv_room (Nat.le_of_ble_eq_true rfl)) d_B_join_2 ⟨(show 0 + 1 ≤ 31 by omega), (show 0 + 6 ≤ 1745 by omega)⟩) hI hA hexc (show 0 + 1 ≤ 31 by omega) (show 0 + 6 ≤ 1745 by omega) (fun v5 w H locs h hI => ?_)
  refine W.widen (k := 1) (n := 6) (show 0 + 1 ≤ 1 by omega) (show 0 + 6 ≤ 6 by omega) ?_
  refine lv_astore_n (lv' := [(3, .ref v5), (0, .ref a0), (1, .int p1), (2, .int p2)]) hx hb d_B_join_5 rfl hl (by decide) rfl (fun ls hl => ?_)
  refine lv_aload_n hx hb d_B_join_6 rfl (lv_at hl 1 rfl) ?_
  refine lv_iload_n hx hb d_B_join_7 rfl (lv_at hl 3 rfl) ?_
  obtain ⟨q8, e9, h⟩ := gb h
  obtain ⟨u6, e7⟩ := gsome h
  refine gw_callA e7 h (gw_runV (As := [.int p2]) (rest := []) hx hb hml hown hT hK hZ hA hI (ci := 0) rfl e9 (m_B_bodyAt l hst D g0 a0 p2 w u6 e7) ce_B_bodyAt wd_436 wd_7 ⟨by decide, by decide⟩ rfl rfl hl.1 rfl (lv_room (Nat.le_of_ble_eq_true rfl)) d_B_join_8 ⟨(show 1 + 1 ≤ 31 by omega), (show 6 + 6 ≤ 1745 by omega)⟩) hI hA hexc (show 1 + 1 ≤ 31 by omega) (show 6 + 6 ≤ 1745 by omega) (fun v10 w H locs h hI => ?_)
  refine W.widen (k := 2) (n := 12) (show 1 + 1 ≤ 2 by omega) (show 6 + 6 ≤ 12 by omega) ?_
  refine lv_astore (lv' := [(4, .ref v10), (3, .ref v5), (0, .ref a0), (1, .int p1), (2, .int p2)]) hx hb d_B_join_11 hl (by decide) rfl (fun ls hl => ?_)
  refine lv_aload_n hx hb d_B_join_13 rfl (lv_at hl 2 rfl) ?_
  obtain ⟨v11, e12, h⟩ := gb h
  refine gw_getA hx hb hT hown hK hI (ci := 0) rfl i_0 1 (by decide) wd_190 (fun _ h9 => h9) e12 d_B_join_14 ?_
  obtain ⟨q15, e16, h⟩ := gb h
  obtain ⟨u13, e14⟩ := gsome h
  refine gw_callI e14 h (gw_runV (As := []) (rest := []) hx hb hml hown hT hK hZ hA hI (ci := 1) rfl e16 (m_AL_size l hst D g0 v11 w u13 e14) ce_AL_size wd_224 wd_226 ⟨by decide, by decide⟩ rfl rfl hl.1 rfl (lv_room (Nat.le_of_ble_eq_true rfl)) d_B_join_17 ⟨(show 2 + 0 ≤ 31 by omega), (show 12 + 0 ≤ 1745 by omega)⟩) hI hA hexc (show 2 + 0 ≤ 31 by omega) (show 12 + 0 ≤ 1745 by omega) (fun v17 w H locs h hI => ?_)
  refine lv_bipush (v := 30) hx hb d_B_join_20 (by decide) ?_
  obtain ⟨K46, eK46, h⟩ := gj h
  have hK46 : ∀ (w : gW) (H : Heap) (locs : List Loc) (ls : Array Slot), K46 w = some r → gI D s A w H locs → lv_has ls 6 [] → W p l e rm_B_join s m args below meth c H locs 2 12 Q (F0 m 46 ls []) := by
    intro w H locs ls h hI hl
    have h := gk1 eK46 h
    refine lv_iconst (v := -1) hx hb d_B_join_46 (by decide) ?_
    exact W.widen (show 2 ≤ 31 by omega) (show 12 ≤ 1745 by omega) (hret _ _ (Option.some.inj h).symm _ _ _ _ d_B_join_47 hI)
  refine lv_icmp_ge (tgt := 46) hx hb d_B_join_22 (by decide) (fun c18 => ?_) (fun c18 => ?_)
  · skip
    have h := git c18 h
    exact hK46 w H locs ls h hI (lv_sub hl [] rfl)
  · skip
    have h := gie c18 h
    refine lv_aload_n hx hb d_B_join_25 rfl (lv_at hl 1 rfl) ?_
    obtain ⟨v19, e20, h⟩ := gb h
    refine gw_getA hx hb hT hown hK hI (ci := 4) rfl i_4 0 (by decide) wd_238 (fun _ h9 => h9) e20 d_B_join_26 ?_
    obtain ⟨q23, e24, h⟩ := gb h
    obtain ⟨u21, e22⟩ := gsome h
    refine gw_callI e22 h (gw_runV (As := []) (rest := []) hx hb hml hown hT hK hZ hA hI (ci := 1) rfl e24 (m_AL_size l hst D g0 v19 w u21 e22) ce_AL_size wd_224 wd_226 ⟨by decide, by decide⟩ rfl rfl hl.1 rfl (lv_room (Nat.le_of_ble_eq_true rfl)) d_B_join_29 ⟨(show 2 + 0 ≤ 31 by omega), (show 12 + 0 ≤ 1745 by omega)⟩) hI hA hexc (show 2 + 0 ≤ 31 by omega) (show 12 + 0 ≤ 1745 by omega) (fun v25 w H locs h hI => ?_)
    refine lv_aload hx hb d_B_join_32 (lv_at hl 0 rfl) ?_
    obtain ⟨v26, e27, h⟩ := gb h
    refine gw_getA hx hb hT hown hK hI (ci := 4) rfl i_4 0 (by decide) wd_238 (fun _ h9 => h9) e27 d_B_join_34 ?_
    obtain ⟨q30, e31, h⟩ := gb h
    obtain ⟨u28, e29⟩ := gsome h
    refine gw_callI e29 h (gw_runV (As := []) (rest := [.int v25]) hx hb hml hown hT hK hZ hA hI (ci := 1) rfl e31 (m_AL_size l hst D g0 v26 w u28 e29) ce_AL_size wd_224 wd_226 ⟨by decide, by decide⟩ rfl rfl hl.1 rfl (lv_room (Nat.le_of_ble_eq_true rfl)) d_B_join_37 ⟨(show 2 + 0 ≤ 31 by omega), (show 12 + 0 ≤ 1745 by omega)⟩) hI hA hexc (show 2 + 0 ≤ 31 by omega) (show 12 + 0 ≤ 1745 by omega) (fun v32 w H locs h hI => ?_)
    refine lv_iadd hx hb d_B_join_40 ?_
    refine lv_bipush (v := 12) hx hb d_B_join_41 (by decide) ?_
    refine lv_icmp_le (tgt := 48) hx hb d_B_join_43 (by decide) (fun c33 => ?_) (fun c33 => ?_)
    · skip
      have h := git c33 h
      obtain ⟨o34, w, e35, h⟩ := gb2 h
      refine gw_new hx hb hT hown hK hI hA (ci := 4) rfl i_4 t_4 t_4_ok wd_228 wd_229 wd_58 (fs := [.null, .long 0]) df_4 e35 (show 2 + 1 ≤ 31 by omega) (show 12 + 2 ≤ 1745 by omega) d_B_join_48 (fun H hI => ?_)
      refine W.widen (k := 3) (n := 14) (show 2 + 1 ≤ 3 by omega) (show 12 + 2 ≤ 14 by omega) ?_
      refine lv_dup hx hb d_B_join_51 rfl ?_
      obtain ⟨u36, e37⟩ := gsome h
      refine gw_callV e37 h (gw_runIN (As := []) (rest := [.ref o34]) hx hb hml hown hT hK hZ hA hI (m_By_init l hst D g0 o34 w u36 e37) ce_By_init wd_230 rfl ⟨by decide, by decide⟩ rfl rfl hl.1 rfl (lv_room (Nat.le_of_ble_eq_true rfl)) d_B_join_52 ⟨(show 3 + 1 ≤ 31 by omega), (show 14 + 3 ≤ 1745 by omega)⟩) hI hA hexc (show 3 + 1 ≤ 31 by omega) (show 14 + 3 ≤ 1745 by omega) (fun v38 w H locs h hI => ?_)
      refine W.widen (k := 4) (n := 17) (show 3 + 1 ≤ 4 by omega) (show 14 + 3 ≤ 17 by omega) ?_
      refine lv_astore (lv' := [(5, .ref o34), (4, .ref v10), (3, .ref v5), (0, .ref a0), (1, .int p1), (2, .int p2)]) hx hb d_B_join_55 hl (by decide) rfl (fun ls hl => ?_)
      refine lv_aload hx hb d_B_join_57 (lv_at hl 0 rfl) ?_
      refine lv_aload_n hx hb d_B_join_59 rfl (lv_at hl 2 rfl) ?_
      obtain ⟨q41, e42, h⟩ := gb h
      obtain ⟨u39, e40⟩ := gsome h
      refine gw_callV e40 h (gw_runV (As := [.ref v5]) (rest := []) hx hb hml hown hT hK hZ hA hI (ci := 4) rfl e42 (m_By_addAllOf l hst D g0 o34 v5 w u39 e40) ce_By_addAllOf wd_629 wd_631 ⟨by decide, by decide⟩ rfl rfl hl.1 rfl (lv_room (Nat.le_of_ble_eq_true rfl)) d_B_join_60 ⟨(show 4 + 13 ≤ 31 by omega), (show 17 + 832 ≤ 1745 by omega)⟩) hI hA hexc (show 4 + 13 ≤ 31 by omega) (show 17 + 832 ≤ 1745 by omega) (fun v43 w H locs h hI => ?_)
      refine W.widen (k := 17) (n := 849) (show 4 + 13 ≤ 17 by omega) (show 17 + 832 ≤ 849 by omega) ?_
      refine lv_aload hx hb d_B_join_63 (lv_at hl 0 rfl) ?_
      refine lv_aload hx hb d_B_join_65 (lv_at hl 1 rfl) ?_
      obtain ⟨q46, e47, h⟩ := gb h
      obtain ⟨u44, e45⟩ := gsome h
      refine gw_callV e45 h (gw_runV (As := [.ref v10]) (rest := []) hx hb hml hown hT hK hZ hA hI (ci := 4) rfl e47 (m_By_addAllOf l hst D g0 o34 v10 w u44 e45) ce_By_addAllOf wd_629 wd_631 ⟨by decide, by decide⟩ rfl rfl hl.1 rfl (lv_room (Nat.le_of_ble_eq_true rfl)) d_B_join_67 ⟨(show 17 + 13 ≤ 31 by omega), (show 849 + 832 ≤ 1745 by omega)⟩) hI hA hexc (show 17 + 13 ≤ 31 by omega) (show 849 + 832 ≤ 1745 by omega) (fun v48 w H locs h hI => ?_)
      refine W.widen (k := 30) (n := 1681) (show 17 + 13 ≤ 30 by omega) (show 849 + 832 ≤ 1681 by omega) ?_
      refine lv_aload_n hx hb d_B_join_70 rfl (lv_at hl 3 rfl) ?_
      refine lv_aload hx hb d_B_join_71 (lv_at hl 0 rfl) ?_
      obtain ⟨q51, e52, h⟩ := gb h
      obtain ⟨u49, e50⟩ := gsome h
      refine gw_callI e50 h (gw_runV (As := [.ref o34]) (rest := []) hx hb hml hown hT hK hZ hA hI (ci := 0) rfl e52 (m_B_addBody l hst D g0 a0 o34 w u49 e50) ce_B_addBody wd_246 wd_0 ⟨by decide, by decide⟩ rfl rfl hl.1 rfl (lv_room (Nat.le_of_ble_eq_true rfl)) d_B_join_73 ⟨(show 30 + 1 ≤ 31 by omega), (show 1681 + 64 ≤ 1745 by omega)⟩) hI hA hexc (show 30 + 1 ≤ 31 by omega) (show 1681 + 64 ≤ 1745 by omega) (fun v53 w H locs h hI => ?_)
      refine W.widen (k := 31) (n := 1745) (show 30 + 1 ≤ 31 by omega) (show 1681 + 64 ≤ 1745 by omega) ?_
      exact W.widen (show 31 ≤ 31 by omega) (show 1745 ≤ 1745 by omega) (hret _ _ (Option.some.inj h).symm _ _ _ _ d_B_join_76 hI)
    · skip
      have h := gie c33 h
      exact hK46 w H locs ls h hI (lv_sub hl [] rfl)
