abbrev b_M_isWide : ByteArray := prog_9_method_56_code
def y_M_isWide : MethodName := ⟨"BodySolidsModel", "isWide", "(J)Z"⟩
theorem d_M_isWide_0 : decode b_M_isWide 0 = .ok (.lload_n 0, 1) := by decide +kernel
theorem d_M_isWide_1 : decode b_M_isWide 1 = .ok (.ldc2_w 262, 3) := by decide +kernel
theorem d_M_isWide_4 : decode b_M_isWide 4 = .ok (.ldc2_w 264, 3) := by decide +kernel
theorem d_M_isWide_7 : decode b_M_isWide 7 = .ok (.invokestatic 88, 3) := by decide +kernel
theorem d_M_isWide_10 : decode b_M_isWide 10 = .ok (.ireturn, 1) := by decide +kernel
abbrev rm_M_isWide : Room := { frames := 1, cells := 0, slots := 0, locals := 25 }
theorem ce_M_isWide : gCe y_M_isWide (.code y_M_isWide b_M_isWide 2 (some .boolean)) 2 1 true := gCe.code wd_1077 wd_57 wd_1076 (by decide) (by decide +kernel)
def f_M_isWide (g0 : gG) (p0 : Int64) (w : gW) : gX Int32 := gbind (f_M_within g0 p0 (-20000) 20000 w) fun v3 w => gguard (v3 = 0 ∨ v3 = 1) (some (.inr v3, w))
set_option maxHeartbeats 4000000 in
set_option maxRecDepth 100000 in
theorem m_M_isWide (l : Launch) (hst : l.stackTraces = false) (D : gD) (g0 : gG) (p0 : Int64) (w : gW) (r : (String ⊕ Int32) × gW) (h : f_M_isWide g0 p0 w = some r) : gMet l y_M_isWide (.code y_M_isWide b_M_isWide 2 (some .boolean)) rm_M_isWide D g0 [.long p0] w (goI r) := by
  refine gw_ofZ (by decide +kernel) (Nat.le_of_ble_eq_true rfl) ?_
  intro p e s m below meth c ls args A Q hx hb hml hown hlocks hin hnt hT hK hZ hA hret hexc hthr hI hl
  obtain ⟨H, hH⟩ : ∃ H, H = s.heap := ⟨_, rfl⟩
  rw [← hH] at hI ⊢
  obtain ⟨locs, hlocs⟩ : ∃ z : List Loc, z = [] := ⟨_, rfl⟩
  rw [← hlocs] at hI ⊢
  have hl : lv_has ls 2 [(0, .long p0)] := hl
  unfold f_M_isWide at h
  refine lv_lload_n hx hb d_M_isWide_0 rfl (lv_at hl 0 rfl) ?_
  refine lv_ldc2 (v := (-20000)) hx hb hown (hT _ wd_1078 args) d_M_isWide_1 ?_
  refine lv_ldc2 (v := 20000) hx hb hown (hT _ wd_1079 args) d_M_isWide_4 ?_
  obtain ⟨u1, e2⟩ := gsome h
  refine gw_callI e2 h (gw_runS (As := [.long p0, .long (-20000), .long 20000]) (rest := []) hx hb hml hown hT hK hZ hA hI (m_M_within l hst D g0 p0 (-20000) 20000 w u1 e2) ce_M_within wd_881 ⟨by decide, by decide⟩ rfl rfl hl.1 rfl (lv_room (Nat.le_of_ble_eq_true rfl)) d_M_isWide_7 ⟨(show 0 + 0 ≤ 0 by omega), (show 0 + 0 ≤ 0 by omega)⟩) hI hA hexc (show 0 + 0 ≤ 0 by omega) (show 0 + 0 ≤ 0 by omega) (fun v3 w H locs h hI => ?_)
  obtain ⟨g4, h⟩ := gif h
  exact W.widen (show 0 ≤ 0 by omega) (show 0 ≤ 0 by omega) (hret g4 0 _ (Option.some.inj h).symm _ _ _ _ d_M_isWide_10 hI)

abbrev b_M_keepOut : ByteArray := prog_9_method_57_code
def y_M_keepOut : MethodName := ⟨"BodySolidsModel", "keepOut", "(JJJJIJ)Z"⟩
theorem d_M_keepOut_0 : decode b_M_keepOut 0 = .ok (.lload_n 1, 1) := by decide +kernel
theorem d_M_keepOut_1 : decode b_M_keepOut 1 = .ok (.invokestatic 266, 3) := by decide +kernel
theorem d_M_keepOut_4 : decode b_M_keepOut 4 = .ok (.ifCond .eq 44, 3) := by decide +kernel
theorem d_M_keepOut_7 : decode b_M_keepOut 7 = .ok (.lload_n 3, 1) := by decide +kernel
theorem d_M_keepOut_8 : decode b_M_keepOut 8 = .ok (.invokestatic 266, 3) := by decide +kernel
theorem d_M_keepOut_11 : decode b_M_keepOut 11 = .ok (.ifCond .eq 37, 3) := by decide +kernel
theorem d_M_keepOut_14 : decode b_M_keepOut 14 = .ok (.lload 5, 2) := by decide +kernel
theorem d_M_keepOut_16 : decode b_M_keepOut 16 = .ok (.invokestatic 266, 3) := by decide +kernel
theorem d_M_keepOut_19 : decode b_M_keepOut 19 = .ok (.ifCond .eq 29, 3) := by decide +kernel
theorem d_M_keepOut_22 : decode b_M_keepOut 22 = .ok (.lload 7, 2) := by decide +kernel
theorem d_M_keepOut_24 : decode b_M_keepOut 24 = .ok (.invokestatic 266, 3) := by decide +kernel
theorem d_M_keepOut_27 : decode b_M_keepOut 27 = .ok (.ifCond .eq 21, 3) := by decide +kernel
theorem d_M_keepOut_30 : decode b_M_keepOut 30 = .ok (.lload_n 1, 1) := by decide +kernel
theorem d_M_keepOut_31 : decode b_M_keepOut 31 = .ok (.lload 5, 2) := by decide +kernel
theorem d_M_keepOut_33 : decode b_M_keepOut 33 = .ok (.lcmp, 1) := by decide +kernel
theorem d_M_keepOut_34 : decode b_M_keepOut 34 = .ok (.ifCond .ge 14, 3) := by decide +kernel
theorem d_M_keepOut_37 : decode b_M_keepOut 37 = .ok (.lload_n 3, 1) := by decide +kernel
theorem d_M_keepOut_38 : decode b_M_keepOut 38 = .ok (.lload 7, 2) := by decide +kernel
theorem d_M_keepOut_40 : decode b_M_keepOut 40 = .ok (.lcmp, 1) := by decide +kernel
theorem d_M_keepOut_41 : decode b_M_keepOut 41 = .ok (.ifCond .ge 7, 3) := by decide +kernel
theorem d_M_keepOut_44 : decode b_M_keepOut 44 = .ok (.iconst 1, 1) := by decide +kernel
theorem d_M_keepOut_45 : decode b_M_keepOut 45 = .ok (.goto 4, 3) := by decide +kernel
theorem d_M_keepOut_48 : decode b_M_keepOut 48 = .ok (.iconst 0, 1) := by decide +kernel
theorem d_M_keepOut_49 : decode b_M_keepOut 49 = .ok (.istore 12, 2) := by decide +kernel
theorem d_M_keepOut_51 : decode b_M_keepOut 51 = .ok (.aload_n 0, 1) := by decide +kernel
theorem d_M_keepOut_52 : decode b_M_keepOut 52 = .ok (.iload 12, 2) := by decide +kernel
theorem d_M_keepOut_54 : decode b_M_keepOut 54 = .ok (.ifCond .eq 30, 3) := by decide +kernel
theorem d_M_keepOut_57 : decode b_M_keepOut 57 = .ok (.iload 9, 2) := by decide +kernel
theorem d_M_keepOut_59 : decode b_M_keepOut 59 = .ok (.ifCond .eq 9, 3) := by decide +kernel
theorem d_M_keepOut_62 : decode b_M_keepOut 62 = .ok (.iload 9, 2) := by decide +kernel
theorem d_M_keepOut_64 : decode b_M_keepOut 64 = .ok (.iconst 1, 1) := by decide +kernel
theorem d_M_keepOut_65 : decode b_M_keepOut 65 = .ok (.if_icmp .ne 19, 3) := by decide +kernel
theorem d_M_keepOut_68 : decode b_M_keepOut 68 = .ok (.lload 10, 2) := by decide +kernel
theorem d_M_keepOut_70 : decode b_M_keepOut 70 = .ok (.lconst 0, 1) := by decide +kernel
theorem d_M_keepOut_71 : decode b_M_keepOut 71 = .ok (.ldc2_w 264, 3) := by decide +kernel
theorem d_M_keepOut_74 : decode b_M_keepOut 74 = .ok (.invokestatic 88, 3) := by decide +kernel
theorem d_M_keepOut_77 : decode b_M_keepOut 77 = .ok (.ifCond .eq 7, 3) := by decide +kernel
theorem d_M_keepOut_80 : decode b_M_keepOut 80 = .ok (.iconst 0, 1) := by decide +kernel
theorem d_M_keepOut_81 : decode b_M_keepOut 81 = .ok (.goto 4, 3) := by decide +kernel
theorem d_M_keepOut_84 : decode b_M_keepOut 84 = .ok (.iconst 1, 1) := by decide +kernel
theorem d_M_keepOut_85 : decode b_M_keepOut 85 = .ok (.putfield 80, 3) := by decide +kernel
theorem d_M_keepOut_88 : decode b_M_keepOut 88 = .ok (.aload_n 0, 1) := by decide +kernel
theorem d_M_keepOut_89 : decode b_M_keepOut 89 = .ok (.getfield 80, 3) := by decide +kernel
theorem d_M_keepOut_92 : decode b_M_keepOut 92 = .ok (.ifCond .ne 12, 3) := by decide +kernel
theorem d_M_keepOut_95 : decode b_M_keepOut 95 = .ok (.aload_n 0, 1) := by decide +kernel
theorem d_M_keepOut_96 : decode b_M_keepOut 96 = .ok (.getfield 269, 3) := by decide +kernel
theorem d_M_keepOut_99 : decode b_M_keepOut 99 = .ok (.bipush 10, 2) := by decide +kernel
theorem d_M_keepOut_101 : decode b_M_keepOut 101 = .ok (.if_icmp .ne 5, 3) := by decide +kernel
theorem d_M_keepOut_104 : decode b_M_keepOut 104 = .ok (.iconst 0, 1) := by decide +kernel
theorem d_M_keepOut_105 : decode b_M_keepOut 105 = .ok (.ireturn, 1) := by decide +kernel
theorem d_M_keepOut_106 : decode b_M_keepOut 106 = .ok (.bipush 6, 2) := by decide +kernel
theorem d_M_keepOut_108 : decode b_M_keepOut 108 = .ok (.aload_n 0, 1) := by decide +kernel
theorem d_M_keepOut_109 : decode b_M_keepOut 109 = .ok (.getfield 269, 3) := by decide +kernel
theorem d_M_keepOut_112 : decode b_M_keepOut 112 = .ok (.imul, 1) := by decide +kernel
theorem d_M_keepOut_113 : decode b_M_keepOut 113 = .ok (.istore 13, 2) := by decide +kernel
theorem d_M_keepOut_115 : decode b_M_keepOut 115 = .ok (.aload_n 0, 1) := by decide +kernel
theorem d_M_keepOut_116 : decode b_M_keepOut 116 = .ok (.getfield 50, 3) := by decide +kernel
theorem d_M_keepOut_119 : decode b_M_keepOut 119 = .ok (.iload 13, 2) := by decide +kernel
theorem d_M_keepOut_121 : decode b_M_keepOut 121 = .ok (.lload_n 1, 1) := by decide +kernel
theorem d_M_keepOut_122 : decode b_M_keepOut 122 = .ok (.lastore, 1) := by decide +kernel
theorem d_M_keepOut_123 : decode b_M_keepOut 123 = .ok (.aload_n 0, 1) := by decide +kernel
theorem d_M_keepOut_124 : decode b_M_keepOut 124 = .ok (.getfield 50, 3) := by decide +kernel
theorem d_M_keepOut_127 : decode b_M_keepOut 127 = .ok (.iload 13, 2) := by decide +kernel
theorem d_M_keepOut_129 : decode b_M_keepOut 129 = .ok (.iconst 1, 1) := by decide +kernel
theorem d_M_keepOut_130 : decode b_M_keepOut 130 = .ok (.iadd, 1) := by decide +kernel
theorem d_M_keepOut_131 : decode b_M_keepOut 131 = .ok (.lload_n 3, 1) := by decide +kernel
theorem d_M_keepOut_132 : decode b_M_keepOut 132 = .ok (.lastore, 1) := by decide +kernel
theorem d_M_keepOut_133 : decode b_M_keepOut 133 = .ok (.aload_n 0, 1) := by decide +kernel
theorem d_M_keepOut_134 : decode b_M_keepOut 134 = .ok (.getfield 50, 3) := by decide +kernel
theorem d_M_keepOut_137 : decode b_M_keepOut 137 = .ok (.iload 13, 2) := by decide +kernel
theorem d_M_keepOut_139 : decode b_M_keepOut 139 = .ok (.iconst 2, 1) := by decide +kernel
theorem d_M_keepOut_140 : decode b_M_keepOut 140 = .ok (.iadd, 1) := by decide +kernel
theorem d_M_keepOut_141 : decode b_M_keepOut 141 = .ok (.lload 5, 2) := by decide +kernel
theorem d_M_keepOut_143 : decode b_M_keepOut 143 = .ok (.lastore, 1) := by decide +kernel
theorem d_M_keepOut_144 : decode b_M_keepOut 144 = .ok (.aload_n 0, 1) := by decide +kernel
theorem d_M_keepOut_145 : decode b_M_keepOut 145 = .ok (.getfield 50, 3) := by decide +kernel
theorem d_M_keepOut_148 : decode b_M_keepOut 148 = .ok (.iload 13, 2) := by decide +kernel
theorem d_M_keepOut_150 : decode b_M_keepOut 150 = .ok (.iconst 3, 1) := by decide +kernel
theorem d_M_keepOut_151 : decode b_M_keepOut 151 = .ok (.iadd, 1) := by decide +kernel
theorem d_M_keepOut_152 : decode b_M_keepOut 152 = .ok (.lload 7, 2) := by decide +kernel
theorem d_M_keepOut_154 : decode b_M_keepOut 154 = .ok (.lastore, 1) := by decide +kernel
theorem d_M_keepOut_155 : decode b_M_keepOut 155 = .ok (.aload_n 0, 1) := by decide +kernel
theorem d_M_keepOut_156 : decode b_M_keepOut 156 = .ok (.getfield 50, 3) := by decide +kernel
theorem d_M_keepOut_159 : decode b_M_keepOut 159 = .ok (.iload 13, 2) := by decide +kernel
theorem d_M_keepOut_161 : decode b_M_keepOut 161 = .ok (.iconst 4, 1) := by decide +kernel
theorem d_M_keepOut_162 : decode b_M_keepOut 162 = .ok (.iadd, 1) := by decide +kernel
theorem d_M_keepOut_163 : decode b_M_keepOut 163 = .ok (.iload 9, 2) := by decide +kernel
theorem d_M_keepOut_165 : decode b_M_keepOut 165 = .ok (.i2l, 1) := by decide +kernel
theorem d_M_keepOut_166 : decode b_M_keepOut 166 = .ok (.lastore, 1) := by decide +kernel
theorem d_M_keepOut_167 : decode b_M_keepOut 167 = .ok (.aload_n 0, 1) := by decide +kernel
theorem d_M_keepOut_168 : decode b_M_keepOut 168 = .ok (.getfield 50, 3) := by decide +kernel
theorem d_M_keepOut_171 : decode b_M_keepOut 171 = .ok (.iload 13, 2) := by decide +kernel
theorem d_M_keepOut_173 : decode b_M_keepOut 173 = .ok (.iconst 5, 1) := by decide +kernel
theorem d_M_keepOut_174 : decode b_M_keepOut 174 = .ok (.iadd, 1) := by decide +kernel
theorem d_M_keepOut_175 : decode b_M_keepOut 175 = .ok (.lload 10, 2) := by decide +kernel
theorem d_M_keepOut_177 : decode b_M_keepOut 177 = .ok (.lastore, 1) := by decide +kernel
theorem d_M_keepOut_178 : decode b_M_keepOut 178 = .ok (.aload_n 0, 1) := by decide +kernel
theorem d_M_keepOut_179 : decode b_M_keepOut 179 = .ok (.dup, 1) := by decide +kernel
theorem d_M_keepOut_180 : decode b_M_keepOut 180 = .ok (.getfield 269, 3) := by decide +kernel
theorem d_M_keepOut_183 : decode b_M_keepOut 183 = .ok (.iconst 1, 1) := by decide +kernel
theorem d_M_keepOut_184 : decode b_M_keepOut 184 = .ok (.iadd, 1) := by decide +kernel
theorem d_M_keepOut_185 : decode b_M_keepOut 185 = .ok (.putfield 269, 3) := by decide +kernel
theorem d_M_keepOut_188 : decode b_M_keepOut 188 = .ok (.iconst 1, 1) := by decide +kernel
theorem d_M_keepOut_189 : decode b_M_keepOut 189 = .ok (.ireturn, 1) := by decide +kernel
abbrev rm_M_keepOut : Room := { frames := 2, cells := 0, slots := 0, locals := 46 }
theorem ce_M_keepOut : gCe y_M_keepOut (.code y_M_keepOut b_M_keepOut 14 (some .boolean)) 14 6 false := gCe.code wd_1074 wd_57 wd_1072 (by decide) (by decide +kernel)
def f_M_keepOut (g0 : gG) (a0 : Nat) (p1 : Int64) (p2 : Int64) (p3 : Int64) (p4 : Int64) (p5 : Int32) (p6 : Int64) (w : gW) : gX Int32 := gbind (f_M_isWide g0 p1 w) fun v3 w => gjoin (fun K49 => gjoin (fun K48 => if v3 = 0 then (K48 w) else (gbind (f_M_isWide g0 p2 w) fun v48 w => if v48 = 0 then (K48 w) else (gbind (f_M_isWide g0 p3 w) fun v52 w => if v52 = 0 then (K48 w) else (gbind (f_M_isWide g0 p4 w) fun v56 w => if v56 = 0 then (K48 w) else (if p3 ≤ p1 then (K48 w) else (if p4 ≤ p2 then (K48 w) else (K49 1 w))))))) (fun (w : gW) => K49 0 w)) (fun (y4 : Int32) (w : gW) => gjoin (fun K85 => gjoin (fun K84 => if y4 = 0 then (K84 w) else (gjoin (fun K68 => if p5 = 0 then (K68 w) else (if p5 = 1 then (K68 w) else (K84 w))) (fun (w : gW) => gbind (f_M_within g0 p6 0 20000 w) fun v41 w => if v41 = 0 then (K84 w) else (K85 0 w)))) (fun (w : gW) => K85 1 w)) (fun (y5 : Int32) (w : gW) => (gp w a0 7 0 (.int y5)).bind fun w => (gfI w a0 7 0).bind fun v7 => gjoin (fun K104 => if v7 = 0 then ((gfI w a0 7 18).bind fun v11 => if v11 = 10 then (K104 w) else ((gfI w a0 7 18).bind fun v14 => (gfA w a0 7 19).bind fun v16 => (gsJ w v16 (6 * v14) p1).bind fun w => (gfA w a0 7 19).bind fun v19 => (gsJ w v19 ((6 * v14) + 1) p2).bind fun w => (gfA w a0 7 19).bind fun v22 => (gsJ w v22 ((6 * v14) + 2) p3).bind fun w => (gfA w a0 7 19).bind fun v25 => (gsJ w v25 ((6 * v14) + 3) p4).bind fun w => (gfA w a0 7 19).bind fun v28 => (gsJ w v28 ((6 * v14) + 4) (p5.toInt64)).bind fun w => (gfA w a0 7 19).bind fun v31 => (gsJ w v31 ((6 * v14) + 5) p6).bind fun w => (gfI w a0 7 18).bind fun v34 => (gp w a0 7 18 (.int (v34 + 1))).bind fun w => gguard ((1 : Int32) = 0 ∨ (1 : Int32) = 1) (some (.inr 1, w)))) else (K104 w)) (fun (w : gW) => gguard ((0 : Int32) = 0 ∨ (0 : Int32) = 1) (some (.inr 0, w)))))
set_option maxHeartbeats 4000000 in
set_option maxRecDepth 100000 in
theorem m_M_keepOut (l : Launch) (hst : l.stackTraces = false) (D : gD) (g0 : gG) (a0 : Nat) (p1 : Int64) (p2 : Int64) (p3 : Int64) (p4 : Int64) (p5 : Int32) (p6 : Int64) (w : gW) (r : (String ⊕ Int32) × gW) (h : f_M_keepOut g0 a0 p1 p2 p3 p4 p5 p6 w = some r) : gMet l y_M_keepOut (.code y_M_keepOut b_M_keepOut 14 (some .boolean)) rm_M_keepOut D g0 [.ref a0, .long p1, .long p2, .long p3, .long p4, .int p5, .long p6] w (goI r) := by
  refine gw_ofZ (by decide +kernel) (Nat.le_of_ble_eq_true rfl) ?_
  intro p e s m below meth c ls args A Q hx hb hml hown hlocks hin hnt hT hK hZ hA hret hexc hthr hI hl
  obtain ⟨H, hH⟩ : ∃ H, H = s.heap := ⟨_, rfl⟩
  rw [← hH] at hI ⊢
  obtain ⟨locs, hlocs⟩ : ∃ z : List Loc, z = [] := ⟨_, rfl⟩
  rw [← hlocs] at hI ⊢
  have hl : lv_has ls 14 [(0, .ref a0), (1, .long p1), (3, .long p2), (5, .long p3), (7, .long p4), (9, .int p5), (10, .long p6)] := hl
  unfold f_M_keepOut at h
  refine lv_lload_n hx hb d_M_keepOut_0 rfl (lv_at hl 1 rfl) ?_
  obtain ⟨u1, e2⟩ := gsome h
  refine gw_callI e2 h (gw_runS (As := [.long p1]) (rest := []) hx hb hml hown hT hK hZ hA hI (m_M_isWide l hst D g0 p1 w u1 e2) ce_M_isWide wd_1075 ⟨by decide, by decide⟩ rfl rfl hl.1 rfl (lv_room (Nat.le_of_ble_eq_true rfl)) d_M_keepOut_1 ⟨(show 0 + 0 ≤ 0 by omega), (show 0 + 0 ≤ 0 by omega)⟩) hI hA hexc (show 0 + 0 ≤ 0 by omega) (show 0 + 0 ≤ 0 by omega) (fun v3 w H locs h hI => ?_)
  obtain ⟨K49, eK49, h⟩ := gj h
  have hK49 : ∀ (y4 : Int32) (w : gW) (H : Heap) (locs : List Loc) (ls : Array Slot), K49 y4 w = some r → gI D s A w H locs → lv_has ls 14 [(0, .ref a0), (1, .long p1), (3, .long p2), (5, .long p3), (7, .long p4), (9, .int p5), (10, .long p6)] → W p l e rm_M_keepOut s m args below meth c H locs 0 0 Q (F0 m 49 ls [.int y4]) := by
    intro y4 w H locs ls h hI hl
    have h := gk2 eK49 h
    refine lv_istore (lv' := [(12, .int y4), (0, .ref a0), (1, .long p1), (3, .long p2), (5, .long p3), (7, .long p4), (9, .int p5), (10, .long p6)]) hx hb d_M_keepOut_49 hl (by decide) rfl (fun ls hl => ?_)
    refine lv_aload_n hx hb d_M_keepOut_51 rfl (lv_at hl 1 rfl) ?_
    refine lv_iload hx hb d_M_keepOut_52 (lv_at hl 0 rfl) ?_
    obtain ⟨K85, eK85, h⟩ := gj h
    have hK85 : ∀ (y5 : Int32) (w : gW) (H : Heap) (locs : List Loc) (ls : Array Slot), K85 y5 w = some r → gI D s A w H locs → lv_has ls 14 [(0, .ref a0), (1, .long p1), (3, .long p2), (5, .long p3), (7, .long p4), (9, .int p5), (10, .long p6)] → W p l e rm_M_keepOut s m args below meth c H locs 0 0 Q (F0 m 85 ls [.int y5, .ref a0]) := by
      intro y5 w H locs ls h hI hl
      have h := gk2 eK85 h
      obtain ⟨w, e6, h⟩ := gb h
      refine gw_put hx hb hT hown hK hI (ci := 7) rfl i_7 t_7 t_7_ok n_7 0 (by decide) wd_786 (fun _ h9 => h9) rfl (ty := .int) (by decide +kernel) rfl rfl e6 d_M_keepOut_85 (fun H locs hI => ?_)
      refine lv_aload_n hx hb d_M_keepOut_88 rfl (lv_at hl 0 rfl) ?_
      obtain ⟨v7, e8, h⟩ := gb h
      refine gw_getI hx hb hT hown hK hI (ci := 7) rfl i_7 0 (by decide) wd_786 (fun _ h9 => h9) e8 d_M_keepOut_89 ?_
      obtain ⟨K104, eK104, h⟩ := gj h
      have hK104 : ∀ (w : gW) (H : Heap) (locs : List Loc) (ls : Array Slot), K104 w = some r → gI D s A w H locs → lv_has ls 14 [] → W p l e rm_M_keepOut s m args below meth c H locs 0 0 Q (F0 m 104 ls []) := by
        intro w H locs ls h hI hl
        have h := gk1 eK104 h
        refine lv_iconst (v := 0) hx hb d_M_keepOut_104 (by decide) ?_
        obtain ⟨g9, h⟩ := gif h
        exact W.widen (show 0 ≤ 0 by omega) (show 0 ≤ 0 by omega) (hret g9 0 _ (Option.some.inj h).symm _ _ _ _ d_M_keepOut_105 hI)
      refine lv_if_ne (tgt := 104) hx hb d_M_keepOut_92 (by decide) (fun c10 => ?_) (fun c10 => ?_)
      · skip
        have h := gie c10 h
        exact hK104 w H locs ls h hI (lv_sub hl [] rfl)
      · skip
        have h := git c10 h
        refine lv_aload_n hx hb d_M_keepOut_95 rfl (lv_at hl 0 rfl) ?_
        obtain ⟨v11, e12, h⟩ := gb h
        refine gw_getI hx hb hT hown hK hI (ci := 7) rfl i_7 18 (by decide) wd_804 (fun _ h9 => h9) e12 d_M_keepOut_96 ?_
        refine lv_bipush (v := 10) hx hb d_M_keepOut_99 (by decide) ?_
        refine lv_icmp_ne (tgt := 106) hx hb d_M_keepOut_101 (by decide) (fun c13 => ?_) (fun c13 => ?_)
        · skip
          have h := gie c13 h
          refine lv_bipush (v := 6) hx hb d_M_keepOut_106 (by decide) ?_
          refine lv_aload_n hx hb d_M_keepOut_108 rfl (lv_at hl 0 rfl) ?_
          obtain ⟨v14, e15, h⟩ := gb h
          refine gw_getI hx hb hT hown hK hI (ci := 7) rfl i_7 18 (by decide) wd_804 (fun _ h9 => h9) e15 d_M_keepOut_109 ?_
          refine lv_imul hx hb d_M_keepOut_112 ?_
          refine lv_istore (lv' := [(13, .int (6 * v14)), (0, .ref a0), (1, .long p1), (3, .long p2), (5, .long p3), (7, .long p4), (9, .int p5), (10, .long p6)]) hx hb d_M_keepOut_113 hl (by decide) rfl (fun ls hl => ?_)
          refine lv_aload_n hx hb d_M_keepOut_115 rfl (lv_at hl 1 rfl) ?_
          obtain ⟨v16, e17, h⟩ := gb h
          refine gw_getA hx hb hT hown hK hI (ci := 7) rfl i_7 19 (by decide) wd_805 (fun _ h9 => h9) e17 d_M_keepOut_116 ?_
          refine lv_iload hx hb d_M_keepOut_119 (lv_at hl 0 rfl) ?_
          refine lv_lload_n hx hb d_M_keepOut_121 rfl (lv_at hl 2 rfl) ?_
          obtain ⟨w, e18, h⟩ := gb h
          refine gw_astJ hx hb hK hI e18 d_M_keepOut_122 (fun H locs hI => ?_)
          refine lv_aload_n hx hb d_M_keepOut_123 rfl (lv_at hl 1 rfl) ?_
          obtain ⟨v19, e20, h⟩ := gb h
          refine gw_getA hx hb hT hown hK hI (ci := 7) rfl i_7 19 (by decide) wd_805 (fun _ h9 => h9) e20 d_M_keepOut_124 ?_
          refine lv_iload hx hb d_M_keepOut_127 (lv_at hl 0 rfl) ?_
          refine lv_iconst (v := 1) hx hb d_M_keepOut_129 (by decide) ?_
          refine lv_iadd hx hb d_M_keepOut_130 ?_
          refine lv_lload_n hx hb d_M_keepOut_131 rfl (lv_at hl 3 rfl) ?_
          obtain ⟨w, e21, h⟩ := gb h
          refine gw_astJ hx hb hK hI e21 d_M_keepOut_132 (fun H locs hI => ?_)
          refine lv_aload_n hx hb d_M_keepOut_133 rfl (lv_at hl 1 rfl) ?_
          obtain ⟨v22, e23, h⟩ := gb h
          refine gw_getA hx hb hT hown hK hI (ci := 7) rfl i_7 19 (by decide) wd_805 (fun _ h9 => h9) e23 d_M_keepOut_134 ?_
          refine lv_iload hx hb d_M_keepOut_137 (lv_at hl 0 rfl) ?_
          refine lv_iconst (v := 2) hx hb d_M_keepOut_139 (by decide) ?_
          refine lv_iadd hx hb d_M_keepOut_140 ?_
          refine lv_lload hx hb d_M_keepOut_141 (lv_at hl 4 rfl) ?_
          obtain ⟨w, e24, h⟩ := gb h
          refine gw_astJ hx hb hK hI e24 d_M_keepOut_143 (fun H locs hI => ?_)
          refine lv_aload_n hx hb d_M_keepOut_144 rfl (lv_at hl 1 rfl) ?_
          obtain ⟨v25, e26, h⟩ := gb h
          refine gw_getA hx hb hT hown hK hI (ci := 7) rfl i_7 19 (by decide) wd_805 (fun _ h9 => h9) e26 d_M_keepOut_145 ?_
          refine lv_iload hx hb d_M_keepOut_148 (lv_at hl 0 rfl) ?_
          refine lv_iconst (v := 3) hx hb d_M_keepOut_150 (by decide) ?_
          refine lv_iadd hx hb d_M_keepOut_151 ?_
          refine lv_lload hx hb d_M_keepOut_152 (lv_at hl 5 rfl) ?_
          obtain ⟨w, e27, h⟩ := gb h
          refine gw_astJ hx hb hK hI e27 d_M_keepOut_154 (fun H locs hI => ?_)
          refine lv_aload_n hx hb d_M_keepOut_155 rfl (lv_at hl 1 rfl) ?_
          obtain ⟨v28, e29, h⟩ := gb h
          refine gw_getA hx hb hT hown hK hI (ci := 7) rfl i_7 19 (by decide) wd_805 (fun _ h9 => h9) e29 d_M_keepOut_156 ?_
          refine lv_iload hx hb d_M_keepOut_159 (lv_at hl 0 rfl) ?_
          refine lv_iconst (v := 4) hx hb d_M_keepOut_161 (by decide) ?_
          refine lv_iadd hx hb d_M_keepOut_162 ?_
          refine lv_iload hx hb d_M_keepOut_163 (lv_at hl 6 rfl) ?_
          refine lv_i2l (v := p5.toInt64) hx hb d_M_keepOut_165 rfl ?_
          obtain ⟨w, e30, h⟩ := gb h
          refine gw_astJ hx hb hK hI e30 d_M_keepOut_166 (fun H locs hI => ?_)
          refine lv_aload_n hx hb d_M_keepOut_167 rfl (lv_at hl 1 rfl) ?_
          obtain ⟨v31, e32, h⟩ := gb h
          refine gw_getA hx hb hT hown hK hI (ci := 7) rfl i_7 19 (by decide) wd_805 (fun _ h9 => h9) e32 d_M_keepOut_168 ?_
          refine lv_iload hx hb d_M_keepOut_171 (lv_at hl 0 rfl) ?_
          refine lv_iconst (v := 5) hx hb d_M_keepOut_173 (by decide) ?_
          refine lv_iadd hx hb d_M_keepOut_174 ?_
          refine lv_lload hx hb d_M_keepOut_175 (lv_at hl 7 rfl) ?_
          obtain ⟨w, e33, h⟩ := gb h
          refine gw_astJ hx hb hK hI e33 d_M_keepOut_177 (fun H locs hI => ?_)
          refine lv_aload_n hx hb d_M_keepOut_178 rfl (lv_at hl 1 rfl) ?_
          refine lv_dup hx hb d_M_keepOut_179 rfl ?_
          obtain ⟨v34, e35, h⟩ := gb h
          refine gw_getI hx hb hT hown hK hI (ci := 7) rfl i_7 18 (by decide) wd_804 (fun _ h9 => h9) e35 d_M_keepOut_180 ?_
          refine lv_iconst (v := 1) hx hb d_M_keepOut_183 (by decide) ?_
          refine lv_iadd hx hb d_M_keepOut_184 ?_
          obtain ⟨w, e36, h⟩ := gb h
          refine gw_put hx hb hT hown hK hI (ci := 7) rfl i_7 t_7 t_7_ok n_7 18 (by decide) wd_804 (fun _ h9 => h9) rfl (ty := .int) (by decide +kernel) rfl rfl e36 d_M_keepOut_185 (fun H locs hI => ?_)
          refine lv_iconst (v := 1) hx hb d_M_keepOut_188 (by decide) ?_
          obtain ⟨g37, h⟩ := gif h
          exact W.widen (show 0 ≤ 0 by omega) (show 0 ≤ 0 by omega) (hret g37 0 _ (Option.some.inj h).symm _ _ _ _ d_M_keepOut_189 hI)
        · skip
          have h := git c13 h
          exact hK104 w H locs ls h hI (lv_sub hl [] rfl)
    obtain ⟨K84, eK84, h⟩ := gj h
    have hK84 : ∀ (w : gW) (H : Heap) (locs : List Loc) (ls : Array Slot), K84 w = some r → gI D s A w H locs → lv_has ls 14 [(0, .ref a0), (1, .long p1), (3, .long p2), (5, .long p3), (7, .long p4), (9, .int p5), (10, .long p6)] → W p l e rm_M_keepOut s m args below meth c H locs 0 0 Q (F0 m 84 ls [.ref a0]) := by
      intro w H locs ls h hI hl
      have h := gk1 eK84 h
      refine lv_iconst (v := 1) hx hb d_M_keepOut_84 (by decide) ?_
      exact hK85 _ w H locs ls h hI (lv_sub hl [0, 1, 2, 3, 4, 5, 6] rfl)
    refine lv_if_eq (tgt := 84) hx hb d_M_keepOut_54 (by decide) (fun c38 => ?_) (fun c38 => ?_)
    · skip
      have h := git c38 h
      exact hK84 w H locs ls h hI (lv_sub hl [1, 2, 3, 4, 5, 6, 7] rfl)
    · skip
      have h := gie c38 h
      refine lv_iload hx hb d_M_keepOut_57 (lv_at hl 6 rfl) ?_
      obtain ⟨K68, eK68, h⟩ := gj h
      have hK68 : ∀ (w : gW) (H : Heap) (locs : List Loc) (ls : Array Slot), K68 w = some r → gI D s A w H locs → lv_has ls 14 [(0, .ref a0), (1, .long p1), (3, .long p2), (5, .long p3), (7, .long p4), (9, .int p5), (10, .long p6)] → W p l e rm_M_keepOut s m args below meth c H locs 0 0 Q (F0 m 68 ls [.ref a0]) := by
        intro w H locs ls h hI hl
        have h := gk1 eK68 h
        refine lv_lload hx hb d_M_keepOut_68 (lv_at hl 6 rfl) ?_
        refine lv_lconst (v := 0) hx hb d_M_keepOut_70 (by decide) ?_
        refine lv_ldc2 (v := 20000) hx hb hown (hT _ wd_1079 args) d_M_keepOut_71 ?_
        obtain ⟨u39, e40⟩ := gsome h
        refine gw_callI e40 h (gw_runS (As := [.long p6, .long 0, .long 20000]) (rest := [.ref a0]) hx hb hml hown hT hK hZ hA hI (m_M_within l hst D g0 p6 0 20000 w u39 e40) ce_M_within wd_881 ⟨by decide, by decide⟩ rfl rfl hl.1 rfl (lv_room (Nat.le_of_ble_eq_true rfl)) d_M_keepOut_74 ⟨(show 0 + 0 ≤ 0 by omega), (show 0 + 0 ≤ 0 by omega)⟩) hI hA hexc (show 0 + 0 ≤ 0 by omega) (show 0 + 0 ≤ 0 by omega) (fun v41 w H locs h hI => ?_)
        refine lv_if_eq (tgt := 84) hx hb d_M_keepOut_77 (by decide) (fun c42 => ?_) (fun c42 => ?_)
        · skip
          have h := git c42 h
          exact hK84 w H locs ls h hI (lv_sub hl [0, 1, 2, 3, 4, 5, 6] rfl)
        · skip
          have h := gie c42 h
          refine lv_iconst (v := 0) hx hb d_M_keepOut_80 (by decide) ?_
          refine lv_goto (tgt := 85) hx hb d_M_keepOut_81 (by decide) ?_
          exact hK85 _ w H locs ls h hI (lv_sub hl [0, 1, 2, 3, 4, 5, 6] rfl)
      refine lv_if_eq (tgt := 68) hx hb d_M_keepOut_59 (by decide) (fun c43 => ?_) (fun c43 => ?_)
      · skip
        have h := git c43 h
        exact hK68 w H locs ls h hI (lv_sub hl [1, 2, 3, 4, 5, 6, 7] rfl)
      · skip
        have h := gie c43 h
        refine lv_iload hx hb d_M_keepOut_62 (lv_at hl 6 rfl) ?_
        refine lv_iconst (v := 1) hx hb d_M_keepOut_64 (by decide) ?_
        refine lv_icmp_ne (tgt := 84) hx hb d_M_keepOut_65 (by decide) (fun c44 => ?_) (fun c44 => ?_)
        · skip
          have h := gie c44 h
          exact hK84 w H locs ls h hI (lv_sub hl [1, 2, 3, 4, 5, 6, 7] rfl)
        · skip
          have h := git c44 h
          exact hK68 w H locs ls h hI (lv_sub hl [1, 2, 3, 4, 5, 6, 7] rfl)
  obtain ⟨K48, eK48, h⟩ := gj h
  have hK48 : ∀ (w : gW) (H : Heap) (locs : List Loc) (ls : Array Slot), K48 w = some r → gI D s A w H locs → lv_has ls 14 [(0, .ref a0), (1, .long p1), (3, .long p2), (5, .long p3), (7, .long p4), (9, .int p5), (10, .long p6)] → W p l e rm_M_keepOut s m args below meth c H locs 0 0 Q (F0 m 48 ls []) := by
    intro w H locs ls h hI hl
    have h := gk1 eK48 h
    refine lv_iconst (v := 0) hx hb d_M_keepOut_48 (by decide) ?_
    exact hK49 _ w H locs ls h hI (lv_sub hl [0, 1, 2, 3, 4, 5, 6] rfl)
  refine lv_if_eq (tgt := 48) hx hb d_M_keepOut_4 (by decide) (fun c45 => ?_) (fun c45 => ?_)
  · skip
    have h := git c45 h
    exact hK48 w H locs ls h hI (lv_sub hl [0, 1, 2, 3, 4, 5, 6] rfl)
  · skip
    have h := gie c45 h
    refine lv_lload_n hx hb d_M_keepOut_7 rfl (lv_at hl 2 rfl) ?_
    obtain ⟨u46, e47⟩ := gsome h
    refine gw_callI e47 h (gw_runS (As := [.long p2]) (rest := []) hx hb hml hown hT hK hZ hA hI (m_M_isWide l hst D g0 p2 w u46 e47) ce_M_isWide wd_1075 ⟨by decide, by decide⟩ rfl rfl hl.1 rfl (lv_room (Nat.le_of_ble_eq_true rfl)) d_M_keepOut_8 ⟨(show 0 + 0 ≤ 0 by omega), (show 0 + 0 ≤ 0 by omega)⟩) hI hA hexc (show 0 + 0 ≤ 0 by omega) (show 0 + 0 ≤ 0 by omega) (fun v48 w H locs h hI => ?_)
    refine lv_if_eq (tgt := 48) hx hb d_M_keepOut_11 (by decide) (fun c49 => ?_) (fun c49 => ?_)
    · skip
      have h := git c49 h
      exact hK48 w H locs ls h hI (lv_sub hl [0, 1, 2, 3, 4, 5, 6] rfl)
    · skip
      have h := gie c49 h
      refine lv_lload hx hb d_M_keepOut_14 (lv_at hl 3 rfl) ?_
      obtain ⟨u50, e51⟩ := gsome h
      refine gw_callI e51 h (gw_runS (As := [.long p3]) (rest := []) hx hb hml hown hT hK hZ hA hI (m_M_isWide l hst D g0 p3 w u50 e51) ce_M_isWide wd_1075 ⟨by decide, by decide⟩ rfl rfl hl.1 rfl (lv_room (Nat.le_of_ble_eq_true rfl)) d_M_keepOut_16 ⟨(show 0 + 0 ≤ 0 by omega), (show 0 + 0 ≤ 0 by omega)⟩) hI hA hexc (show 0 + 0 ≤ 0 by omega) (show 0 + 0 ≤ 0 by omega) (fun v52 w H locs h hI => ?_)
      refine lv_if_eq (tgt := 48) hx hb d_M_keepOut_19 (by decide) (fun c53 => ?_) (fun c53 => ?_)
      · skip
        have h := git c53 h
        exact hK48 w H locs ls h hI (lv_sub hl [0, 1, 2, 3, 4, 5, 6] rfl)
      · skip
        have h := gie c53 h
        refine lv_lload hx hb d_M_keepOut_22 (lv_at hl 4 rfl) ?_
        obtain ⟨u54, e55⟩ := gsome h
        refine gw_callI e55 h (gw_runS (As := [.long p4]) (rest := []) hx hb hml hown hT hK hZ hA hI (m_M_isWide l hst D g0 p4 w u54 e55) ce_M_isWide wd_1075 ⟨by decide, by decide⟩ rfl rfl hl.1 rfl (lv_room (Nat.le_of_ble_eq_true rfl)) d_M_keepOut_24 ⟨(show 0 + 0 ≤ 0 by omega), (show 0 + 0 ≤ 0 by omega)⟩) hI hA hexc (show 0 + 0 ≤ 0 by omega) (show 0 + 0 ≤ 0 by omega) (fun v56 w H locs h hI => ?_)
        refine lv_if_eq (tgt := 48) hx hb d_M_keepOut_27 (by decide) (fun c57 => ?_) (fun c57 => ?_)
        · skip
          have h := git c57 h
          exact hK48 w H locs ls h hI (lv_sub hl [0, 1, 2, 3, 4, 5, 6] rfl)
        · skip
          have h := gie c57 h
          refine lv_lload_n hx hb d_M_keepOut_30 rfl (lv_at hl 1 rfl) ?_
          refine lv_lload hx hb d_M_keepOut_31 (lv_at hl 3 rfl) ?_
          refine W.lcmp hx hb d_M_keepOut_33 ?_
          refine lv_if_ge (tgt := 48) hx hb d_M_keepOut_34 (by decide) (fun c58 => ?_) (fun c58 => ?_)
          · have c58 := (lg_cmp_ge _ _).mp c58
            have h := git c58 h
            exact hK48 w H locs ls h hI (lv_sub hl [0, 1, 2, 3, 4, 5, 6] rfl)
          · have c58 := mt (lg_cmp_ge _ _).mpr c58
            have h := gie c58 h
            refine lv_lload_n hx hb d_M_keepOut_37 rfl (lv_at hl 2 rfl) ?_
            refine lv_lload hx hb d_M_keepOut_38 (lv_at hl 4 rfl) ?_
            refine W.lcmp hx hb d_M_keepOut_40 ?_
            refine lv_if_ge (tgt := 48) hx hb d_M_keepOut_41 (by decide) (fun c59 => ?_) (fun c59 => ?_)
            · have c59 := (lg_cmp_ge _ _).mp c59
              have h := git c59 h
              exact hK48 w H locs ls h hI (lv_sub hl [0, 1, 2, 3, 4, 5, 6] rfl)
            · have c59 := mt (lg_cmp_ge _ _).mpr c59
              have h := gie c59 h
              refine lv_iconst (v := 1) hx hb d_M_keepOut_44 (by decide) ?_
              refine lv_goto (tgt := 49) hx hb d_M_keepOut_45 (by decide) ?_
              exact hK49 _ w H locs ls h hI (lv_sub hl [0, 1, 2, 3, 4, 5, 6] rfl)

abbrev b_Pl_boardX : ByteArray := prog_6_method_4_code
def y_Pl_boardX : MethodName := ⟨"BodySolids$Placement", "boardX", "(JJ)J"⟩
theorem d_Pl_boardX_0 : decode b_Pl_boardX 0 = .ok (.aload_n 0, 1) := by decide +kernel
theorem d_Pl_boardX_1 : decode b_Pl_boardX 1 = .ok (.getfield 24, 3) := by decide +kernel
theorem d_Pl_boardX_4 : decode b_Pl_boardX 4 = .ok (.iconst 1, 1) := by decide +kernel
theorem d_Pl_boardX_5 : decode b_Pl_boardX 5 = .ok (.if_icmp .ne 8, 3) := by decide +kernel
theorem d_Pl_boardX_8 : decode b_Pl_boardX 8 = .ok (.lload_n 1, 1) := by decide +kernel
theorem d_Pl_boardX_9 : decode b_Pl_boardX 9 = .ok (.lneg, 1) := by decide +kernel
theorem d_Pl_boardX_10 : decode b_Pl_boardX 10 = .ok (.goto 4, 3) := by decide +kernel
theorem d_Pl_boardX_13 : decode b_Pl_boardX 13 = .ok (.lload_n 1, 1) := by decide +kernel
theorem d_Pl_boardX_14 : decode b_Pl_boardX 14 = .ok (.lstore 5, 2) := by decide +kernel
theorem d_Pl_boardX_16 : decode b_Pl_boardX 16 = .ok (.aload_n 0, 1) := by decide +kernel
theorem d_Pl_boardX_17 : decode b_Pl_boardX 17 = .ok (.getfield 20, 3) := by decide +kernel
theorem d_Pl_boardX_20 : decode b_Pl_boardX 20 = .ok (.tableswitch 51 0 2 #[28, 36, 43], 28) := by decide +kernel
theorem d_Pl_boardX_48 : decode b_Pl_boardX 48 = .ok (.aload_n 0, 1) := by decide +kernel
theorem d_Pl_boardX_49 : decode b_Pl_boardX 49 = .ok (.getfield 13, 3) := by decide +kernel
theorem d_Pl_boardX_52 : decode b_Pl_boardX 52 = .ok (.lload 5, 2) := by decide +kernel
theorem d_Pl_boardX_54 : decode b_Pl_boardX 54 = .ok (.ladd, 1) := by decide +kernel
theorem d_Pl_boardX_55 : decode b_Pl_boardX 55 = .ok (.lreturn, 1) := by decide +kernel
theorem d_Pl_boardX_56 : decode b_Pl_boardX 56 = .ok (.aload_n 0, 1) := by decide +kernel
theorem d_Pl_boardX_57 : decode b_Pl_boardX 57 = .ok (.getfield 13, 3) := by decide +kernel
theorem d_Pl_boardX_60 : decode b_Pl_boardX 60 = .ok (.lload_n 3, 1) := by decide +kernel
theorem d_Pl_boardX_61 : decode b_Pl_boardX 61 = .ok (.lsub, 1) := by decide +kernel
theorem d_Pl_boardX_62 : decode b_Pl_boardX 62 = .ok (.lreturn, 1) := by decide +kernel
theorem d_Pl_boardX_63 : decode b_Pl_boardX 63 = .ok (.aload_n 0, 1) := by decide +kernel
theorem d_Pl_boardX_64 : decode b_Pl_boardX 64 = .ok (.getfield 13, 3) := by decide +kernel
theorem d_Pl_boardX_67 : decode b_Pl_boardX 67 = .ok (.lload 5, 2) := by decide +kernel
theorem d_Pl_boardX_69 : decode b_Pl_boardX 69 = .ok (.lsub, 1) := by decide +kernel
theorem d_Pl_boardX_70 : decode b_Pl_boardX 70 = .ok (.lreturn, 1) := by decide +kernel
theorem d_Pl_boardX_71 : decode b_Pl_boardX 71 = .ok (.aload_n 0, 1) := by decide +kernel
theorem d_Pl_boardX_72 : decode b_Pl_boardX 72 = .ok (.getfield 13, 3) := by decide +kernel
theorem d_Pl_boardX_75 : decode b_Pl_boardX 75 = .ok (.lload_n 3, 1) := by decide +kernel
theorem d_Pl_boardX_76 : decode b_Pl_boardX 76 = .ok (.ladd, 1) := by decide +kernel
theorem d_Pl_boardX_77 : decode b_Pl_boardX 77 = .ok (.lreturn, 1) := by decide +kernel
abbrev rm_Pl_boardX : Room := { frames := 0, cells := 0, slots := 0, locals := 0 }
theorem ce_Pl_boardX : gCe y_Pl_boardX (.code y_Pl_boardX b_Pl_boardX 7 (some .long)) 7 2 false := gCe.code wd_354 wd_68 wd_352 (by decide) (by decide +kernel)
def f_Pl_boardX (g0 : gG) (a0 : Nat) (p1 : Int64) (p2 : Int64) (w : gW) : gX Int64 := (gfI w a0 5 4).bind fun v1 => gjoin (fun K14 => if v1 = 1 then (K14 (-p1) w) else (K14 p1 w)) (fun (y3 : Int64) (w : gW) => (gfI w a0 5 3).bind fun v4 => if v4 = 0 then ((gfJ w a0 5 1).bind fun v7 => some (.inr (v7 + y3), w)) else (if v4 = 1 then ((gfJ w a0 5 1).bind fun v10 => some (.inr (v10 - p2), w)) else (if v4 = 2 then ((gfJ w a0 5 1).bind fun v13 => some (.inr (v13 - y3), w)) else ((gfJ w a0 5 1).bind fun v15 => some (.inr (v15 + p2), w)))))
set_option maxHeartbeats 4000000 in
set_option maxRecDepth 100000 in
theorem m_Pl_boardX (l : Launch) (hst : l.stackTraces = false) (D : gD) (g0 : gG) (a0 : Nat) (p1 : Int64) (p2 : Int64) (w : gW) (r : (String ⊕ Int64) × gW) (h : f_Pl_boardX g0 a0 p1 p2 w = some r) : gMet l y_Pl_boardX (.code y_Pl_boardX b_Pl_boardX 7 (some .long)) rm_Pl_boardX D g0 [.ref a0, .long p1, .long p2] w (goJ r) := by
  refine gw_ofJ (by decide +kernel) (Nat.le_of_ble_eq_true rfl) ?_
  intro p e s m below meth c ls args A Q hx hb hml hown hlocks hin hnt hT hK hZ hA hret hexc hthr hI hl
  obtain ⟨H, hH⟩ : ∃ H, H = s.heap := ⟨_, rfl⟩
  rw [← hH] at hI ⊢
  obtain ⟨locs, hlocs⟩ : ∃ z : List Loc, z = [] := ⟨_, rfl⟩
  rw [← hlocs] at hI ⊢
  have hl : lv_has ls 7 [(0, .ref a0), (1, .long p1), (3, .long p2)] := hl
  unfold f_Pl_boardX at h
  refine lv_aload_n hx hb d_Pl_boardX_0 rfl (lv_at hl 0 rfl) ?_
  obtain ⟨v1, e2, h⟩ := gb h
  refine gw_getI hx hb hT hown hK hI (ci := 5) rfl i_5 4 (by decide) wd_657 (fun _ h9 => h9) e2 d_Pl_boardX_1 ?_
  refine lv_iconst (v := 1) hx hb d_Pl_boardX_4 (by decide) ?_
  obtain ⟨K14, eK14, h⟩ := gj h
  have hK14 : ∀ (y3 : Int64) (w : gW) (H : Heap) (locs : List Loc) (ls : Array Slot), K14 y3 w = some r → gI D s A w H locs → lv_has ls 7 [(0, .ref a0), (3, .long p2)] → W p l e rm_Pl_boardX s m args below meth c H locs 0 0 Q (F0 m 14 ls [.long y3]) := by
    intro y3 w H locs ls h hI hl
    have h := gk2 eK14 h
    refine lv_lstore (lv' := [(5, .long y3), (0, .ref a0), (3, .long p2)]) hx hb d_Pl_boardX_14 hl (by decide) rfl (fun ls hl => ?_)
    refine lv_aload_n hx hb d_Pl_boardX_16 rfl (lv_at hl 1 rfl) ?_
    obtain ⟨v4, e5, h⟩ := gb h
    refine gw_getI hx hb hT hown hK hI (ci := 5) rfl i_5 3 (by decide) wd_656 (fun _ h9 => h9) e5 d_Pl_boardX_17 ?_
    rcases Decidable.em (v4 = 0) with c6 | c6
    · have h := git c6 h
      refine lv_tableIn (off := 28) (tgt := 48) hx hb d_Pl_boardX_20 (by rw [c6]; decide) (by rw [c6]; decide) (by rw [c6]; decide) (by decide) ?_
      refine lv_aload_n hx hb d_Pl_boardX_48 rfl (lv_at hl 1 rfl) ?_
      obtain ⟨v7, e8, h⟩ := gb h
      refine gw_getJ hx hb hT hown hK hI (ci := 5) rfl i_5 1 (by decide) wd_654 (fun _ h9 => h9) e8 d_Pl_boardX_49 ?_
      refine lv_lload hx hb d_Pl_boardX_52 (lv_at hl 0 rfl) ?_
      refine lv_ladd hx hb d_Pl_boardX_54 ?_
      exact W.widen (show 0 ≤ 0 by omega) (show 0 ≤ 0 by omega) (hret _ _ (Option.some.inj h).symm _ _ _ _ d_Pl_boardX_55 hI)
    have h := gie c6 h
    rcases Decidable.em (v4 = 1) with c9 | c9
    · have h := git c9 h
      refine lv_tableIn (off := 36) (tgt := 56) hx hb d_Pl_boardX_20 (by rw [c9]; decide) (by rw [c9]; decide) (by rw [c9]; decide) (by decide) ?_
      refine lv_aload_n hx hb d_Pl_boardX_56 rfl (lv_at hl 1 rfl) ?_
      obtain ⟨v10, e11, h⟩ := gb h
      refine gw_getJ hx hb hT hown hK hI (ci := 5) rfl i_5 1 (by decide) wd_654 (fun _ h9 => h9) e11 d_Pl_boardX_57 ?_
      refine lv_lload_n hx hb d_Pl_boardX_60 rfl (lv_at hl 2 rfl) ?_
      refine lv_lsub hx hb d_Pl_boardX_61 ?_
      exact W.widen (show 0 ≤ 0 by omega) (show 0 ≤ 0 by omega) (hret _ _ (Option.some.inj h).symm _ _ _ _ d_Pl_boardX_62 hI)
    have h := gie c9 h
    rcases Decidable.em (v4 = 2) with c12 | c12
    · have h := git c12 h
      refine lv_tableIn (off := 43) (tgt := 63) hx hb d_Pl_boardX_20 (by rw [c12]; decide) (by rw [c12]; decide) (by rw [c12]; decide) (by decide) ?_
      refine lv_aload_n hx hb d_Pl_boardX_63 rfl (lv_at hl 1 rfl) ?_
      obtain ⟨v13, e14, h⟩ := gb h
      refine gw_getJ hx hb hT hown hK hI (ci := 5) rfl i_5 1 (by decide) wd_654 (fun _ h9 => h9) e14 d_Pl_boardX_64 ?_
      refine lv_lload hx hb d_Pl_boardX_67 (lv_at hl 0 rfl) ?_
      refine lv_lsub hx hb d_Pl_boardX_69 ?_
      exact W.widen (show 0 ≤ 0 by omega) (show 0 ≤ 0 by omega) (hret _ _ (Option.some.inj h).symm _ _ _ _ d_Pl_boardX_70 hI)
    have h := gie c12 h
    refine lv_tableOut (tgt := 71) hx hb d_Pl_boardX_20 (by have q0 := lv_neT c6 (show (0 : Int32).toInt = 0 by decide); have q1 := lv_neT c9 (show (1 : Int32).toInt = 1 by decide); have q2 := lv_neT c12 (show (2 : Int32).toInt = 2 by decide); omega) (by decide) ?_
    refine lv_aload_n hx hb d_Pl_boardX_71 rfl (lv_at hl 1 rfl) ?_
    obtain ⟨v15, e16, h⟩ := gb h
    refine gw_getJ hx hb hT hown hK hI (ci := 5) rfl i_5 1 (by decide) wd_654 (fun _ h9 => h9) e16 d_Pl_boardX_72 ?_
    refine lv_lload_n hx hb d_Pl_boardX_75 rfl (lv_at hl 2 rfl) ?_
    refine lv_ladd hx hb d_Pl_boardX_76 ?_
    exact W.widen (show 0 ≤ 0 by omega) (show 0 ≤ 0 by omega) (hret _ _ (Option.some.inj h).symm _ _ _ _ d_Pl_boardX_77 hI)
  refine lv_icmp_ne (tgt := 13) hx hb d_Pl_boardX_5 (by decide) (fun c17 => ?_) (fun c17 => ?_)
  · skip
    have h := gie c17 h
    refine lv_lload_n hx hb d_Pl_boardX_13 rfl (lv_at hl 1 rfl) ?_
    exact hK14 _ w H locs ls h hI (lv_sub hl [0, 2] rfl)
  · skip
    have h := git c17 h
    refine lv_lload_n hx hb d_Pl_boardX_8 rfl (lv_at hl 1 rfl) ?_
    refine lv_lneg hx hb d_Pl_boardX_9 ?_
    refine lv_goto (tgt := 14) hx hb d_Pl_boardX_10 (by decide) ?_
    exact hK14 _ w H locs ls h hI (lv_sub hl [0, 2] rfl)

abbrev b_Pl_boardY : ByteArray := prog_6_method_5_code
def y_Pl_boardY : MethodName := ⟨"BodySolids$Placement", "boardY", "(JJ)J"⟩
theorem d_Pl_boardY_0 : decode b_Pl_boardY 0 = .ok (.aload_n 0, 1) := by decide +kernel
theorem d_Pl_boardY_1 : decode b_Pl_boardY 1 = .ok (.getfield 24, 3) := by decide +kernel
theorem d_Pl_boardY_4 : decode b_Pl_boardY 4 = .ok (.iconst 1, 1) := by decide +kernel
theorem d_Pl_boardY_5 : decode b_Pl_boardY 5 = .ok (.if_icmp .ne 8, 3) := by decide +kernel
theorem d_Pl_boardY_8 : decode b_Pl_boardY 8 = .ok (.lload_n 1, 1) := by decide +kernel
theorem d_Pl_boardY_9 : decode b_Pl_boardY 9 = .ok (.lneg, 1) := by decide +kernel
theorem d_Pl_boardY_10 : decode b_Pl_boardY 10 = .ok (.goto 4, 3) := by decide +kernel
theorem d_Pl_boardY_13 : decode b_Pl_boardY 13 = .ok (.lload_n 1, 1) := by decide +kernel
theorem d_Pl_boardY_14 : decode b_Pl_boardY 14 = .ok (.lstore 5, 2) := by decide +kernel
theorem d_Pl_boardY_16 : decode b_Pl_boardY 16 = .ok (.aload_n 0, 1) := by decide +kernel
theorem d_Pl_boardY_17 : decode b_Pl_boardY 17 = .ok (.getfield 20, 3) := by decide +kernel
theorem d_Pl_boardY_20 : decode b_Pl_boardY 20 = .ok (.tableswitch 50 0 2 #[28, 35, 43], 28) := by decide +kernel
theorem d_Pl_boardY_48 : decode b_Pl_boardY 48 = .ok (.aload_n 0, 1) := by decide +kernel
theorem d_Pl_boardY_49 : decode b_Pl_boardY 49 = .ok (.getfield 17, 3) := by decide +kernel
theorem d_Pl_boardY_52 : decode b_Pl_boardY 52 = .ok (.lload_n 3, 1) := by decide +kernel
theorem d_Pl_boardY_53 : decode b_Pl_boardY 53 = .ok (.ladd, 1) := by decide +kernel
theorem d_Pl_boardY_54 : decode b_Pl_boardY 54 = .ok (.lreturn, 1) := by decide +kernel
theorem d_Pl_boardY_55 : decode b_Pl_boardY 55 = .ok (.aload_n 0, 1) := by decide +kernel
theorem d_Pl_boardY_56 : decode b_Pl_boardY 56 = .ok (.getfield 17, 3) := by decide +kernel
theorem d_Pl_boardY_59 : decode b_Pl_boardY 59 = .ok (.lload 5, 2) := by decide +kernel
theorem d_Pl_boardY_61 : decode b_Pl_boardY 61 = .ok (.ladd, 1) := by decide +kernel
theorem d_Pl_boardY_62 : decode b_Pl_boardY 62 = .ok (.lreturn, 1) := by decide +kernel
theorem d_Pl_boardY_63 : decode b_Pl_boardY 63 = .ok (.aload_n 0, 1) := by decide +kernel
theorem d_Pl_boardY_64 : decode b_Pl_boardY 64 = .ok (.getfield 17, 3) := by decide +kernel
theorem d_Pl_boardY_67 : decode b_Pl_boardY 67 = .ok (.lload_n 3, 1) := by decide +kernel
theorem d_Pl_boardY_68 : decode b_Pl_boardY 68 = .ok (.lsub, 1) := by decide +kernel
theorem d_Pl_boardY_69 : decode b_Pl_boardY 69 = .ok (.lreturn, 1) := by decide +kernel
theorem d_Pl_boardY_70 : decode b_Pl_boardY 70 = .ok (.aload_n 0, 1) := by decide +kernel
theorem d_Pl_boardY_71 : decode b_Pl_boardY 71 = .ok (.getfield 17, 3) := by decide +kernel
theorem d_Pl_boardY_74 : decode b_Pl_boardY 74 = .ok (.lload 5, 2) := by decide +kernel
theorem d_Pl_boardY_76 : decode b_Pl_boardY 76 = .ok (.lsub, 1) := by decide +kernel
theorem d_Pl_boardY_77 : decode b_Pl_boardY 77 = .ok (.lreturn, 1) := by decide +kernel
abbrev rm_Pl_boardY : Room := { frames := 0, cells := 0, slots := 0, locals := 0 }
theorem ce_Pl_boardY : gCe y_Pl_boardY (.code y_Pl_boardY b_Pl_boardY 7 (some .long)) 7 2 false := gCe.code wd_358 wd_68 wd_356 (by decide) (by decide +kernel)
def f_Pl_boardY (g0 : gG) (a0 : Nat) (p1 : Int64) (p2 : Int64) (w : gW) : gX Int64 := (gfI w a0 5 4).bind fun v1 => gjoin (fun K14 => if v1 = 1 then (K14 (-p1) w) else (K14 p1 w)) (fun (y3 : Int64) (w : gW) => (gfI w a0 5 3).bind fun v4 => if v4 = 0 then ((gfJ w a0 5 2).bind fun v7 => some (.inr (v7 + p2), w)) else (if v4 = 1 then ((gfJ w a0 5 2).bind fun v10 => some (.inr (v10 + y3), w)) else (if v4 = 2 then ((gfJ w a0 5 2).bind fun v13 => some (.inr (v13 - p2), w)) else ((gfJ w a0 5 2).bind fun v15 => some (.inr (v15 - y3), w)))))
set_option maxHeartbeats 4000000 in
set_option maxRecDepth 100000 in
theorem m_Pl_boardY (l : Launch) (hst : l.stackTraces = false) (D : gD) (g0 : gG) (a0 : Nat) (p1 : Int64) (p2 : Int64) (w : gW) (r : (String ⊕ Int64) × gW) (h : f_Pl_boardY g0 a0 p1 p2 w = some r) : gMet l y_Pl_boardY (.code y_Pl_boardY b_Pl_boardY 7 (some .long)) rm_Pl_boardY D g0 [.ref a0, .long p1, .long p2] w (goJ r) := by
  refine gw_ofJ (by decide +kernel) (Nat.le_of_ble_eq_true rfl) ?_
  intro p e s m below meth c ls args A Q hx hb hml hown hlocks hin hnt hT hK hZ hA hret hexc hthr hI hl
  obtain ⟨H, hH⟩ : ∃ H, H = s.heap := ⟨_, rfl⟩
  rw [← hH] at hI ⊢
  obtain ⟨locs, hlocs⟩ : ∃ z : List Loc, z = [] := ⟨_, rfl⟩
  rw [← hlocs] at hI ⊢
  have hl : lv_has ls 7 [(0, .ref a0), (1, .long p1), (3, .long p2)] := hl
  unfold f_Pl_boardY at h
  refine lv_aload_n hx hb d_Pl_boardY_0 rfl (lv_at hl 0 rfl) ?_
  obtain ⟨v1, e2, h⟩ := gb h
  refine gw_getI hx hb hT hown hK hI (ci := 5) rfl i_5 4 (by decide) wd_657 (fun _ h9 => h9) e2 d_Pl_boardY_1 ?_
  refine lv_iconst (v := 1) hx hb d_Pl_boardY_4 (by decide) ?_
  obtain ⟨K14, eK14, h⟩ := gj h
  have hK14 : ∀ (y3 : Int64) (w : gW) (H : Heap) (locs : List Loc) (ls : Array Slot), K14 y3 w = some r → gI D s A w H locs → lv_has ls 7 [(0, .ref a0), (3, .long p2)] → W p l e rm_Pl_boardY s m args below meth c H locs 0 0 Q (F0 m 14 ls [.long y3]) := by
    intro y3 w H locs ls h hI hl
    have h := gk2 eK14 h
    refine lv_lstore (lv' := [(5, .long y3), (0, .ref a0), (3, .long p2)]) hx hb d_Pl_boardY_14 hl (by decide) rfl (fun ls hl => ?_)
    refine lv_aload_n hx hb d_Pl_boardY_16 rfl (lv_at hl 1 rfl) ?_
    obtain ⟨v4, e5, h⟩ := gb h
    refine gw_getI hx hb hT hown hK hI (ci := 5) rfl i_5 3 (by decide) wd_656 (fun _ h9 => h9) e5 d_Pl_boardY_17 ?_
    rcases Decidable.em (v4 = 0) with c6 | c6
    · have h := git c6 h
      refine lv_tableIn (off := 28) (tgt := 48) hx hb d_Pl_boardY_20 (by rw [c6]; decide) (by rw [c6]; decide) (by rw [c6]; decide) (by decide) ?_
      refine lv_aload_n hx hb d_Pl_boardY_48 rfl (lv_at hl 1 rfl) ?_
      obtain ⟨v7, e8, h⟩ := gb h
      refine gw_getJ hx hb hT hown hK hI (ci := 5) rfl i_5 2 (by decide) wd_655 (fun _ h9 => h9) e8 d_Pl_boardY_49 ?_
      refine lv_lload_n hx hb d_Pl_boardY_52 rfl (lv_at hl 2 rfl) ?_
      refine lv_ladd hx hb d_Pl_boardY_53 ?_
      exact W.widen (show 0 ≤ 0 by omega) (show 0 ≤ 0 by omega) (hret _ _ (Option.some.inj h).symm _ _ _ _ d_Pl_boardY_54 hI)
    have h := gie c6 h
    rcases Decidable.em (v4 = 1) with c9 | c9
    · have h := git c9 h
      refine lv_tableIn (off := 35) (tgt := 55) hx hb d_Pl_boardY_20 (by rw [c9]; decide) (by rw [c9]; decide) (by rw [c9]; decide) (by decide) ?_
      refine lv_aload_n hx hb d_Pl_boardY_55 rfl (lv_at hl 1 rfl) ?_
      obtain ⟨v10, e11, h⟩ := gb h
      refine gw_getJ hx hb hT hown hK hI (ci := 5) rfl i_5 2 (by decide) wd_655 (fun _ h9 => h9) e11 d_Pl_boardY_56 ?_
      refine lv_lload hx hb d_Pl_boardY_59 (lv_at hl 0 rfl) ?_
      refine lv_ladd hx hb d_Pl_boardY_61 ?_
      exact W.widen (show 0 ≤ 0 by omega) (show 0 ≤ 0 by omega) (hret _ _ (Option.some.inj h).symm _ _ _ _ d_Pl_boardY_62 hI)
    have h := gie c9 h
    rcases Decidable.em (v4 = 2) with c12 | c12
    · have h := git c12 h
      refine lv_tableIn (off := 43) (tgt := 63) hx hb d_Pl_boardY_20 (by rw [c12]; decide) (by rw [c12]; decide) (by rw [c12]; decide) (by decide) ?_
      refine lv_aload_n hx hb d_Pl_boardY_63 rfl (lv_at hl 1 rfl) ?_
      obtain ⟨v13, e14, h⟩ := gb h
      refine gw_getJ hx hb hT hown hK hI (ci := 5) rfl i_5 2 (by decide) wd_655 (fun _ h9 => h9) e14 d_Pl_boardY_64 ?_
      refine lv_lload_n hx hb d_Pl_boardY_67 rfl (lv_at hl 2 rfl) ?_
      refine lv_lsub hx hb d_Pl_boardY_68 ?_
      exact W.widen (show 0 ≤ 0 by omega) (show 0 ≤ 0 by omega) (hret _ _ (Option.some.inj h).symm _ _ _ _ d_Pl_boardY_69 hI)
    have h := gie c12 h
    refine lv_tableOut (tgt := 70) hx hb d_Pl_boardY_20 (by have q0 := lv_neT c6 (show (0 : Int32).toInt = 0 by decide); have q1 := lv_neT c9 (show (1 : Int32).toInt = 1 by decide); have q2 := lv_neT c12 (show (2 : Int32).toInt = 2 by decide); omega) (by decide) ?_
    refine lv_aload_n hx hb d_Pl_boardY_70 rfl (lv_at hl 1 rfl) ?_
    obtain ⟨v15, e16, h⟩ := gb h
    refine gw_getJ hx hb hT hown hK hI (ci := 5) rfl i_5 2 (by decide) wd_655 (fun _ h9 => h9) e16 d_Pl_boardY_71 ?_
    refine lv_lload hx hb d_Pl_boardY_74 (lv_at hl 0 rfl) ?_
    refine lv_lsub hx hb d_Pl_boardY_76 ?_
    exact W.widen (show 0 ≤ 0 by omega) (show 0 ≤ 0 by omega) (hret _ _ (Option.some.inj h).symm _ _ _ _ d_Pl_boardY_77 hI)
  refine lv_icmp_ne (tgt := 13) hx hb d_Pl_boardY_5 (by decide) (fun c17 => ?_) (fun c17 => ?_)
  · skip
    have h := gie c17 h
    refine lv_lload_n hx hb d_Pl_boardY_13 rfl (lv_at hl 1 rfl) ?_
    exact hK14 _ w H locs ls h hI (lv_sub hl [0, 2] rfl)
  · skip
    have h := git c17 h
    refine lv_lload_n hx hb d_Pl_boardY_8 rfl (lv_at hl 1 rfl) ?_
    refine lv_lneg hx hb d_Pl_boardY_9 ?_
    refine lv_goto (tgt := 14) hx hb d_Pl_boardY_10 (by decide) ?_
    exact hK14 _ w H locs ls h hI (lv_sub hl [0, 2] rfl)

abbrev b_So_layAs : ByteArray := prog_7_method_6_code
def y_So_layAs : MethodName := ⟨"BodySolids$Solid", "layAs", "(LBodySolids$Solid;LBodySolids$Placement;J)V"⟩
theorem d_So_layAs_0 : decode b_So_layAs 0 = .ok (.aload_n 0, 1) := by decide +kernel
theorem d_So_layAs_1 : decode b_So_layAs 1 = .ok (.aload_n 1, 1) := by decide +kernel
theorem d_So_layAs_2 : decode b_So_layAs 2 = .ok (.getfield 18, 3) := by decide +kernel
theorem d_So_layAs_5 : decode b_So_layAs 5 = .ok (.aload_n 1, 1) := by decide +kernel
theorem d_So_layAs_6 : decode b_So_layAs 6 = .ok (.getfield 22, 3) := by decide +kernel
theorem d_So_layAs_9 : decode b_So_layAs 9 = .ok (.aload_n 1, 1) := by decide +kernel
theorem d_So_layAs_10 : decode b_So_layAs 10 = .ok (.getfield 26, 3) := by decide +kernel
theorem d_So_layAs_13 : decode b_So_layAs 13 = .ok (.invokevirtual 63, 3) := by decide +kernel
theorem d_So_layAs_16 : decode b_So_layAs 16 = .ok (.aload_n 2, 1) := by decide +kernel
theorem d_So_layAs_17 : decode b_So_layAs 17 = .ok (.getfield 67, 3) := by decide +kernel
theorem d_So_layAs_20 : decode b_So_layAs 20 = .ok (.iconst 1, 1) := by decide +kernel
theorem d_So_layAs_21 : decode b_So_layAs 21 = .ok (.if_icmp .ne 7, 3) := by decide +kernel
theorem d_So_layAs_24 : decode b_So_layAs 24 = .ok (.iconst 1, 1) := by decide +kernel
theorem d_So_layAs_25 : decode b_So_layAs 25 = .ok (.goto 4, 3) := by decide +kernel
theorem d_So_layAs_28 : decode b_So_layAs 28 = .ok (.iconst 0, 1) := by decide +kernel
theorem d_So_layAs_29 : decode b_So_layAs 29 = .ok (.istore 5, 2) := by decide +kernel
theorem d_So_layAs_31 : decode b_So_layAs 31 = .ok (.iconst 0, 1) := by decide +kernel
theorem d_So_layAs_32 : decode b_So_layAs 32 = .ok (.istore 6, 2) := by decide +kernel
theorem d_So_layAs_34 : decode b_So_layAs 34 = .ok (.iload 6, 2) := by decide +kernel
theorem d_So_layAs_36 : decode b_So_layAs 36 = .ok (.aload_n 1, 1) := by decide +kernel
theorem d_So_layAs_37 : decode b_So_layAs 37 = .ok (.getfield 29, 3) := by decide +kernel
theorem d_So_layAs_40 : decode b_So_layAs 40 = .ok (.if_icmp .ge 77, 3) := by decide +kernel
theorem d_So_layAs_43 : decode b_So_layAs 43 = .ok (.iload 6, 2) := by decide +kernel
theorem d_So_layAs_45 : decode b_So_layAs 45 = .ok (.bipush 8, 2) := by decide +kernel
theorem d_So_layAs_47 : decode b_So_layAs 47 = .ok (.if_icmp .ge 70, 3) := by decide +kernel
theorem d_So_layAs_50 : decode b_So_layAs 50 = .ok (.iload 5, 2) := by decide +kernel
theorem d_So_layAs_52 : decode b_So_layAs 52 = .ok (.ifCond .eq 15, 3) := by decide +kernel
theorem d_So_layAs_55 : decode b_So_layAs 55 = .ok (.aload_n 1, 1) := by decide +kernel
theorem d_So_layAs_56 : decode b_So_layAs 56 = .ok (.getfield 29, 3) := by decide +kernel
theorem d_So_layAs_59 : decode b_So_layAs 59 = .ok (.iconst 1, 1) := by decide +kernel
theorem d_So_layAs_60 : decode b_So_layAs 60 = .ok (.isub, 1) := by decide +kernel
theorem d_So_layAs_61 : decode b_So_layAs 61 = .ok (.iload 6, 2) := by decide +kernel
theorem d_So_layAs_63 : decode b_So_layAs 63 = .ok (.isub, 1) := by decide +kernel
theorem d_So_layAs_64 : decode b_So_layAs 64 = .ok (.goto 5, 3) := by decide +kernel
theorem d_So_layAs_67 : decode b_So_layAs 67 = .ok (.iload 6, 2) := by decide +kernel
theorem d_So_layAs_69 : decode b_So_layAs 69 = .ok (.istore 7, 2) := by decide +kernel
theorem d_So_layAs_71 : decode b_So_layAs 71 = .ok (.aload_n 0, 1) := by decide +kernel
theorem d_So_layAs_72 : decode b_So_layAs 72 = .ok (.aload_n 2, 1) := by decide +kernel
theorem d_So_layAs_73 : decode b_So_layAs 73 = .ok (.aload_n 1, 1) := by decide +kernel
theorem d_So_layAs_74 : decode b_So_layAs 74 = .ok (.getfield 9, 3) := by decide +kernel
theorem d_So_layAs_77 : decode b_So_layAs 77 = .ok (.iload 7, 2) := by decide +kernel
theorem d_So_layAs_79 : decode b_So_layAs 79 = .ok (.laload, 1) := by decide +kernel
theorem d_So_layAs_80 : decode b_So_layAs 80 = .ok (.aload_n 1, 1) := by decide +kernel
theorem d_So_layAs_81 : decode b_So_layAs 81 = .ok (.getfield 15, 3) := by decide +kernel
theorem d_So_layAs_84 : decode b_So_layAs 84 = .ok (.iload 7, 2) := by decide +kernel
theorem d_So_layAs_86 : decode b_So_layAs 86 = .ok (.laload, 1) := by decide +kernel
theorem d_So_layAs_87 : decode b_So_layAs 87 = .ok (.invokevirtual 72, 3) := by decide +kernel
theorem d_So_layAs_90 : decode b_So_layAs 90 = .ok (.aload_n 2, 1) := by decide +kernel
theorem d_So_layAs_91 : decode b_So_layAs 91 = .ok (.aload_n 1, 1) := by decide +kernel
theorem d_So_layAs_92 : decode b_So_layAs 92 = .ok (.getfield 9, 3) := by decide +kernel
theorem d_So_layAs_95 : decode b_So_layAs 95 = .ok (.iload 7, 2) := by decide +kernel
theorem d_So_layAs_97 : decode b_So_layAs 97 = .ok (.laload, 1) := by decide +kernel
theorem d_So_layAs_98 : decode b_So_layAs 98 = .ok (.aload_n 1, 1) := by decide +kernel
theorem d_So_layAs_99 : decode b_So_layAs 99 = .ok (.getfield 15, 3) := by decide +kernel
theorem d_So_layAs_102 : decode b_So_layAs 102 = .ok (.iload 7, 2) := by decide +kernel
theorem d_So_layAs_104 : decode b_So_layAs 104 = .ok (.laload, 1) := by decide +kernel
theorem d_So_layAs_105 : decode b_So_layAs 105 = .ok (.invokevirtual 75, 3) := by decide +kernel
theorem d_So_layAs_108 : decode b_So_layAs 108 = .ok (.invokevirtual 53, 3) := by decide +kernel
theorem d_So_layAs_111 : decode b_So_layAs 111 = .ok (.iinc 6 1, 3) := by decide +kernel
theorem d_So_layAs_114 : decode b_So_layAs 114 = .ok (.goto (-80), 3) := by decide +kernel
theorem d_So_layAs_117 : decode b_So_layAs 117 = .ok (.aload_n 2, 1) := by decide +kernel
theorem d_So_layAs_118 : decode b_So_layAs 118 = .ok (.getfield 67, 3) := by decide +kernel
theorem d_So_layAs_121 : decode b_So_layAs 121 = .ok (.iconst 1, 1) := by decide +kernel
theorem d_So_layAs_122 : decode b_So_layAs 122 = .ok (.if_icmp .ne 24, 3) := by decide +kernel
theorem d_So_layAs_125 : decode b_So_layAs 125 = .ok (.aload_n 0, 1) := by decide +kernel
theorem d_So_layAs_126 : decode b_So_layAs 126 = .ok (.lload_n 3, 1) := by decide +kernel
theorem d_So_layAs_127 : decode b_So_layAs 127 = .ok (.lneg, 1) := by decide +kernel
theorem d_So_layAs_128 : decode b_So_layAs 128 = .ok (.aload_n 1, 1) := by decide +kernel
theorem d_So_layAs_129 : decode b_So_layAs 129 = .ok (.getfield 60, 3) := by decide +kernel
theorem d_So_layAs_132 : decode b_So_layAs 132 = .ok (.lsub, 1) := by decide +kernel
theorem d_So_layAs_133 : decode b_So_layAs 133 = .ok (.lload_n 3, 1) := by decide +kernel
theorem d_So_layAs_134 : decode b_So_layAs 134 = .ok (.lneg, 1) := by decide +kernel
theorem d_So_layAs_135 : decode b_So_layAs 135 = .ok (.aload_n 1, 1) := by decide +kernel
theorem d_So_layAs_136 : decode b_So_layAs 136 = .ok (.getfield 57, 3) := by decide +kernel
theorem d_So_layAs_139 : decode b_So_layAs 139 = .ok (.lsub, 1) := by decide +kernel
theorem d_So_layAs_140 : decode b_So_layAs 140 = .ok (.invokevirtual 78, 3) := by decide +kernel
theorem d_So_layAs_143 : decode b_So_layAs 143 = .ok (.goto 15, 3) := by decide +kernel
theorem d_So_layAs_146 : decode b_So_layAs 146 = .ok (.aload_n 0, 1) := by decide +kernel
theorem d_So_layAs_147 : decode b_So_layAs 147 = .ok (.aload_n 1, 1) := by decide +kernel
theorem d_So_layAs_148 : decode b_So_layAs 148 = .ok (.getfield 57, 3) := by decide +kernel
theorem d_So_layAs_151 : decode b_So_layAs 151 = .ok (.aload_n 1, 1) := by decide +kernel
theorem d_So_layAs_152 : decode b_So_layAs 152 = .ok (.getfield 60, 3) := by decide +kernel
theorem d_So_layAs_155 : decode b_So_layAs 155 = .ok (.invokevirtual 78, 3) := by decide +kernel
theorem d_So_layAs_158 : decode b_So_layAs 158 = .ok (.return_, 1) := by decide +kernel
abbrev rm_So_layAs : Room := { frames := 2, cells := 0, slots := 0, locals := 47 }
theorem ce_So_layAs : gCe y_So_layAs (.code y_So_layAs b_So_layAs 8 none) 8 3 false := gCe.code wd_346 wd_56 wd_344 (by decide) (by decide +kernel)
def f_So_layAs_L34 (g0 : gG) (c0 : Nat) (c1 : Nat) (c2 : Nat) (c3 : Int64) (c5 : Int32) (K117 : gW → gX Unit) : Nat → Int32 → gW → gX Unit
  | 0, _, _ => none
  | n + 1, z6, w => (gfI w c1 3 5).bind fun v36 => if v36 ≤ z6 then (K117 w) else (if 8 ≤ z6 then (K117 w) else (gjoin (fun K69 => if c5 = 0 then (K69 z6 w) else ((gfI w c1 3 5).bind fun v73 => K69 ((v73 - 1) - z6) w)) (fun (y40 : Int32) (w : gW) => (gfA w c1 3 3).bind fun v41 => (gaJ w v41 y40).bind fun v43 => (gfA w c1 3 4).bind fun v45 => (gaJ w v45 y40).bind fun v47 => (gck w c2 5).bind fun _ => gbind (f_Pl_boardX g0 c2 v43 v47 w) fun v53 w => (gfA w c1 3 3).bind fun v54 => (gaJ w v54 y40).bind fun v56 => (gfA w c1 3 4).bind fun v58 => (gaJ w v58 y40).bind fun v60 => (gck w c2 5).bind fun _ => gbind (f_Pl_boardY g0 c2 v56 v60 w) fun v66 w => (gck w c0 3).bind fun _ => gbind (f_So_addCorner g0 c0 v53 v66 w) fun v71 w => f_So_layAs_L34 g0 c0 c1 c2 c3 c5 K117 n (z6 + 1) w)))
def f_So_layAs (g0 : gG) (a0 : Nat) (a1 : Nat) (a2 : Nat) (p3 : Int64) (w : gW) : gX Unit := (gfI w a1 3 0).bind fun v1 => (gfJ w a1 3 1).bind fun v3 => (gfJ w a1 3 2).bind fun v5 => (gck w a0 3).bind fun _ => gbind (f_So_begin g0 a0 v1 v3 v5 w) fun v11 w => (gfI w a2 5 4).bind fun v12 => gjoin (fun K29 => if v12 = 1 then (K29 1 w) else (K29 0 w)) (fun (y14 : Int32) (w : gW) => gjoin (fun K117 => f_So_layAs_L34 g0 a0 a1 a2 p3 y14 K117 64 0 w) (fun (w : gW) => (gfI w a2 5 4).bind fun v15 => gjoin (fun K158 => if v15 = 1 then ((gfJ w a1 3 11).bind fun v27 => (gfJ w a1 3 8).bind fun v29 => (gck w a0 3).bind fun _ => gbind (f_So_setHeights g0 a0 ((-p3) - v27) ((-p3) - v29) w) fun v35 w => K158 w) else ((gfJ w a1 3 8).bind fun v18 => (gfJ w a1 3 11).bind fun v20 => (gck w a0 3).bind fun _ => gbind (f_So_setHeights g0 a0 v18 v20 w) fun v26 w => K158 w)) (fun (w : gW) => some (.inr (), w))))
set_option maxHeartbeats 4000000 in
set_option maxRecDepth 100000 in
theorem m_So_layAs (l : Launch) (hst : l.stackTraces = false) (D : gD) (g0 : gG) (a0 : Nat) (a1 : Nat) (a2 : Nat) (p3 : Int64) (w : gW) (r : (String ⊕ Unit) × gW) (h : f_So_layAs g0 a0 a1 a2 p3 w = some r) : gMet l y_So_layAs (.code y_So_layAs b_So_layAs 8 none) rm_So_layAs D g0 [.ref a0, .ref a1, .ref a2, .long p3] w (goV r) := by
  refine gw_ofV (by decide +kernel) (Nat.le_of_ble_eq_true rfl) ?_
  intro p e s m below meth c ls args A Q hx hb hml hown hlocks hin hnt hT hK hZ hA hret hexc hthr hI hl
  obtain ⟨H, hH⟩ : ∃ H, H = s.heap := ⟨_, rfl⟩
  rw [← hH] at hI ⊢
  obtain ⟨locs, hlocs⟩ : ∃ z : List Loc, z = [] := ⟨_, rfl⟩
  rw [← hlocs] at hI ⊢
  have hl : lv_has ls 8 [(0, .ref a0), (1, .ref a1), (2, .ref a2), (3, .long p3)] := hl
  unfold f_So_layAs at h
  refine lv_aload_n hx hb d_So_layAs_0 rfl (lv_at hl 0 rfl) ?_
  refine lv_aload_n hx hb d_So_layAs_1 rfl (lv_at hl 1 rfl) ?_
  obtain ⟨v1, e2, h⟩ := gb h
  refine gw_getI hx hb hT hown hK hI (ci := 3) rfl i_3 0 (by decide) wd_129 (fun _ h9 => h9) e2 d_So_layAs_2 ?_
  refine lv_aload_n hx hb d_So_layAs_5 rfl (lv_at hl 1 rfl) ?_
  obtain ⟨v3, e4, h⟩ := gb h
  refine gw_getJ hx hb hT hown hK hI (ci := 3) rfl i_3 1 (by decide) wd_132 (fun _ h9 => h9) e4 d_So_layAs_6 ?_
  refine lv_aload_n hx hb d_So_layAs_9 rfl (lv_at hl 1 rfl) ?_
  obtain ⟨v5, e6, h⟩ := gb h
  refine gw_getJ hx hb hT hown hK hI (ci := 3) rfl i_3 2 (by decide) wd_134 (fun _ h9 => h9) e6 d_So_layAs_10 ?_
  obtain ⟨q9, e10, h⟩ := gb h
  obtain ⟨u7, e8⟩ := gsome h
  refine gw_callV e8 h (gw_runV (As := [.int v1, .long v3, .long v5]) (rest := []) hx hb hml hown hT hK hZ hA hI (ci := 3) rfl e10 (m_So_begin l hst D g0 a0 v1 v3 v5 w u7 e8) ce_So_begin wd_347 wd_349 ⟨by decide, by decide⟩ rfl rfl hl.1 rfl (lv_room (Nat.le_of_ble_eq_true rfl)) d_So_layAs_13 ⟨(show 0 + 0 ≤ 0 by omega), (show 0 + 0 ≤ 0 by omega)⟩) hI hA hexc (show 0 + 0 ≤ 0 by omega) (show 0 + 0 ≤ 0 by omega) (fun v11 w H locs h hI => ?_)
  refine lv_aload_n hx hb d_So_layAs_16 rfl (lv_at hl 2 rfl) ?_
  obtain ⟨v12, e13, h⟩ := gb h
  refine gw_getI hx hb hT hown hK hI (ci := 5) rfl i_5 4 (by decide) wd_658 (fun _ h9 => h9) e13 d_So_layAs_17 ?_
  refine lv_iconst (v := 1) hx hb d_So_layAs_20 (by decide) ?_
  obtain ⟨K29, eK29, h⟩ := gj h
  have hK29 : ∀ (y14 : Int32) (w : gW) (H : Heap) (locs : List Loc) (ls : Array Slot), K29 y14 w = some r → gI D s A w H locs → lv_has ls 8 [(0, .ref a0), (1, .ref a1), (2, .ref a2), (3, .long p3)] → W p l e rm_So_layAs s m args below meth c H locs 0 0 Q (F0 m 29 ls [.int y14]) := by
    intro y14 w H locs ls h hI hl
    have h := gk2 eK29 h
    refine lv_istore (lv' := [(5, .int y14), (0, .ref a0), (1, .ref a1), (2, .ref a2), (3, .long p3)]) hx hb d_So_layAs_29 hl (by decide) rfl (fun ls hl => ?_)
    refine lv_iconst (v := 0) hx hb d_So_layAs_31 (by decide) ?_
    refine lv_istore (lv' := [(6, .int 0), (5, .int y14), (0, .ref a0), (1, .ref a1), (2, .ref a2), (3, .long p3)]) hx hb d_So_layAs_32 hl (by decide) rfl (fun ls hl => ?_)
    obtain ⟨K117, eK117, h⟩ := gj h
    have hK117 : ∀ (w : gW) (H : Heap) (locs : List Loc) (ls : Array Slot), K117 w = some r → gI D s A w H locs → lv_has ls 8 [(0, .ref a0), (1, .ref a1), (2, .ref a2), (3, .long p3)] → W p l e rm_So_layAs s m args below meth c H locs 0 0 Q (F0 m 117 ls []) := by
      intro w H locs ls h hI hl
      have h := gk1 eK117 h
      refine lv_aload_n hx hb d_So_layAs_117 rfl (lv_at hl 2 rfl) ?_
      obtain ⟨v15, e16, h⟩ := gb h
      refine gw_getI hx hb hT hown hK hI (ci := 5) rfl i_5 4 (by decide) wd_658 (fun _ h9 => h9) e16 d_So_layAs_118 ?_
      refine lv_iconst (v := 1) hx hb d_So_layAs_121 (by decide) ?_
      obtain ⟨K158, eK158, h⟩ := gj h
      have hK158 : ∀ (w : gW) (H : Heap) (locs : List Loc) (ls : Array Slot), K158 w = some r → gI D s A w H locs → lv_has ls 8 [] → W p l e rm_So_layAs s m args below meth c H locs 0 0 Q (F0 m 158 ls []) := by
        intro w H locs ls h hI hl
        have h := gk1 eK158 h
        exact W.widen (show 0 ≤ 0 by omega) (show 0 ≤ 0 by omega) (hret _ _ (Option.some.inj h).symm _ _ _ _ d_So_layAs_158 hI)
      refine lv_icmp_ne (tgt := 146) hx hb d_So_layAs_122 (by decide) (fun c17 => ?_) (fun c17 => ?_)
      · skip
        have h := gie c17 h
        refine lv_aload_n hx hb d_So_layAs_146 rfl (lv_at hl 0 rfl) ?_
        refine lv_aload_n hx hb d_So_layAs_147 rfl (lv_at hl 1 rfl) ?_
        obtain ⟨v18, e19, h⟩ := gb h
        refine gw_getJ hx hb hT hown hK hI (ci := 3) rfl i_3 8 (by decide) wd_146 (fun _ h9 => h9) e19 d_So_layAs_148 ?_
        refine lv_aload_n hx hb d_So_layAs_151 rfl (lv_at hl 1 rfl) ?_
        obtain ⟨v20, e21, h⟩ := gb h
        refine gw_getJ hx hb hT hown hK hI (ci := 3) rfl i_3 11 (by decide) wd_152 (fun _ h9 => h9) e21 d_So_layAs_152 ?_
        obtain ⟨q24, e25, h⟩ := gb h
        obtain ⟨u22, e23⟩ := gsome h
        refine gw_callV e23 h (gw_runV (As := [.long v18, .long v20]) (rest := []) hx hb hml hown hT hK hZ hA hI (ci := 3) rfl e25 (m_So_setHeights l hst D g0 a0 v18 v20 w u22 e23) ce_So_setHeights wd_365 wd_367 ⟨by decide, by decide⟩ rfl rfl hl.1 rfl (lv_room (Nat.le_of_ble_eq_true rfl)) d_So_layAs_155 ⟨(show 0 + 0 ≤ 0 by omega), (show 0 + 0 ≤ 0 by omega)⟩) hI hA hexc (show 0 + 0 ≤ 0 by omega) (show 0 + 0 ≤ 0 by omega) (fun v26 w H locs h hI => ?_)
        exact hK158 w H locs ls h hI (lv_sub hl [] rfl)
      · skip
        have h := git c17 h
        refine lv_aload_n hx hb d_So_layAs_125 rfl (lv_at hl 0 rfl) ?_
        refine lv_lload_n hx hb d_So_layAs_126 rfl (lv_at hl 3 rfl) ?_
        refine lv_lneg hx hb d_So_layAs_127 ?_
        refine lv_aload_n hx hb d_So_layAs_128 rfl (lv_at hl 1 rfl) ?_
        obtain ⟨v27, e28, h⟩ := gb h
        refine gw_getJ hx hb hT hown hK hI (ci := 3) rfl i_3 11 (by decide) wd_152 (fun _ h9 => h9) e28 d_So_layAs_129 ?_
        refine lv_lsub hx hb d_So_layAs_132 ?_
        refine lv_lload_n hx hb d_So_layAs_133 rfl (lv_at hl 3 rfl) ?_
        refine lv_lneg hx hb d_So_layAs_134 ?_
        refine lv_aload_n hx hb d_So_layAs_135 rfl (lv_at hl 1 rfl) ?_
        obtain ⟨v29, e30, h⟩ := gb h
        refine gw_getJ hx hb hT hown hK hI (ci := 3) rfl i_3 8 (by decide) wd_146 (fun _ h9 => h9) e30 d_So_layAs_136 ?_
        refine lv_lsub hx hb d_So_layAs_139 ?_
        obtain ⟨q33, e34, h⟩ := gb h
        obtain ⟨u31, e32⟩ := gsome h
        refine gw_callV e32 h (gw_runV (As := [.long ((-p3) - v27), .long ((-p3) - v29)]) (rest := []) hx hb hml hown hT hK hZ hA hI (ci := 3) rfl e34 (m_So_setHeights l hst D g0 a0 ((-p3) - v27) ((-p3) - v29) w u31 e32) ce_So_setHeights wd_365 wd_367 ⟨by decide, by decide⟩ rfl rfl hl.1 rfl (lv_room (Nat.le_of_ble_eq_true rfl)) d_So_layAs_140 ⟨(show 0 + 0 ≤ 0 by omega), (show 0 + 0 ≤ 0 by omega)⟩) hI hA hexc (show 0 + 0 ≤ 0 by omega) (show 0 + 0 ≤ 0 by omega) (fun v35 w H locs h hI => ?_)
        refine lv_goto (tgt := 158) hx hb d_So_layAs_143 (by decide) ?_
        exact hK158 w H locs ls h hI (lv_sub hl [] rfl)
    have hL34 : ∀ (n : Nat), ∀ (z36 : Int32) (w : gW) (H : Heap) (locs : List Loc) (ls : Array Slot), f_So_layAs_L34 g0 a0 a1 a2 p3 y14 K117 n z36 w = some r → gI D s A w H locs → lv_has ls 8 [(0, .ref a0), (1, .ref a1), (2, .ref a2), (3, .long p3), (5, .int y14), (6, .int z36)] → W p l e rm_So_layAs s m args below meth c H locs 0 0 Q (F0 m 34 ls []) := by
      intro n
      induction n with
      | zero => intro z36 w H locs ls h hI hl; exact absurd h (by simp [f_So_layAs_L34])
      | succ n ih =>
        intro z36 w H locs ls h hI hl
        rw [f_So_layAs_L34] at h
        refine lv_iload hx hb d_So_layAs_34 (lv_at hl 5 rfl) ?_
        refine lv_aload_n hx hb d_So_layAs_36 rfl (lv_at hl 1 rfl) ?_
        obtain ⟨v37, e38, h⟩ := gb h
        refine gw_getI hx hb hT hown hK hI (ci := 3) rfl i_3 5 (by decide) wd_139 (fun _ h9 => h9) e38 d_So_layAs_37 ?_
        refine lv_icmp_ge (tgt := 117) hx hb d_So_layAs_40 (by decide) (fun c39 => ?_) (fun c39 => ?_)
        · skip
          have h := git c39 h
          exact hK117 w H locs ls h hI (lv_sub hl [0, 1, 2, 3] rfl)
        · skip
          have h := gie c39 h
          refine lv_iload hx hb d_So_layAs_43 (lv_at hl 5 rfl) ?_
          refine lv_bipush (v := 8) hx hb d_So_layAs_45 (by decide) ?_
          refine lv_icmp_ge (tgt := 117) hx hb d_So_layAs_47 (by decide) (fun c40 => ?_) (fun c40 => ?_)
          · skip
            have h := git c40 h
            exact hK117 w H locs ls h hI (lv_sub hl [0, 1, 2, 3] rfl)
          · skip
            have h := gie c40 h
            refine lv_iload hx hb d_So_layAs_50 (lv_at hl 4 rfl) ?_
            obtain ⟨K69, eK69, h⟩ := gj h
            have hK69 : ∀ (y41 : Int32) (w : gW) (H : Heap) (locs : List Loc) (ls : Array Slot), K69 y41 w = some r → gI D s A w H locs → lv_has ls 8 [(0, .ref a0), (1, .ref a1), (2, .ref a2), (3, .long p3), (5, .int y14), (6, .int z36)] → W p l e rm_So_layAs s m args below meth c H locs 0 0 Q (F0 m 69 ls [.int y41]) := by
              intro y41 w H locs ls h hI hl
              have h := gk2 eK69 h
              refine lv_istore (lv' := [(7, .int y41), (0, .ref a0), (1, .ref a1), (2, .ref a2), (3, .long p3), (5, .int y14), (6, .int z36)]) hx hb d_So_layAs_69 hl (by decide) rfl (fun ls hl => ?_)
              refine lv_aload_n hx hb d_So_layAs_71 rfl (lv_at hl 1 rfl) ?_
              refine lv_aload_n hx hb d_So_layAs_72 rfl (lv_at hl 3 rfl) ?_
              refine lv_aload_n hx hb d_So_layAs_73 rfl (lv_at hl 2 rfl) ?_
              obtain ⟨v42, e43, h⟩ := gb h
              refine gw_getA hx hb hT hown hK hI (ci := 3) rfl i_3 3 (by decide) wd_135 (fun _ h9 => h9) e43 d_So_layAs_74 ?_
              refine lv_iload hx hb d_So_layAs_77 (lv_at hl 0 rfl) ?_
              obtain ⟨v44, e45, h⟩ := gb h
              refine gw_aldJ hx hb hK hI e45 d_So_layAs_79 ?_
              refine lv_aload_n hx hb d_So_layAs_80 rfl (lv_at hl 2 rfl) ?_
              obtain ⟨v46, e47, h⟩ := gb h
              refine gw_getA hx hb hT hown hK hI (ci := 3) rfl i_3 4 (by decide) wd_137 (fun _ h9 => h9) e47 d_So_layAs_81 ?_
              refine lv_iload hx hb d_So_layAs_84 (lv_at hl 0 rfl) ?_
              obtain ⟨v48, e49, h⟩ := gb h
              refine gw_aldJ hx hb hK hI e49 d_So_layAs_86 ?_
              obtain ⟨q52, e53, h⟩ := gb h
              obtain ⟨u50, e51⟩ := gsome h
              refine gw_callJ e51 h (gw_runV (As := [.long v44, .long v48]) (rest := [.ref a0]) hx hb hml hown hT hK hZ hA hI (ci := 5) rfl e53 (m_Pl_boardX l hst D g0 a2 v44 v48 w u50 e51) ce_Pl_boardX wd_351 wd_353 ⟨by decide, by decide⟩ rfl rfl hl.1 rfl (lv_room (Nat.le_of_ble_eq_true rfl)) d_So_layAs_87 ⟨(show 0 + 0 ≤ 0 by omega), (show 0 + 0 ≤ 0 by omega)⟩) hI hA hexc (show 0 + 0 ≤ 0 by omega) (show 0 + 0 ≤ 0 by omega) (fun v54 w H locs h hI => ?_)
              refine lv_aload_n hx hb d_So_layAs_90 rfl (lv_at hl 3 rfl) ?_
              refine lv_aload_n hx hb d_So_layAs_91 rfl (lv_at hl 2 rfl) ?_
              obtain ⟨v55, e56, h⟩ := gb h
              refine gw_getA hx hb hT hown hK hI (ci := 3) rfl i_3 3 (by decide) wd_135 (fun _ h9 => h9) e56 d_So_layAs_92 ?_
              refine lv_iload hx hb d_So_layAs_95 (lv_at hl 0 rfl) ?_
              obtain ⟨v57, e58, h⟩ := gb h
              refine gw_aldJ hx hb hK hI e58 d_So_layAs_97 ?_
              refine lv_aload_n hx hb d_So_layAs_98 rfl (lv_at hl 2 rfl) ?_
              obtain ⟨v59, e60, h⟩ := gb h
              refine gw_getA hx hb hT hown hK hI (ci := 3) rfl i_3 4 (by decide) wd_137 (fun _ h9 => h9) e60 d_So_layAs_99 ?_
              refine lv_iload hx hb d_So_layAs_102 (lv_at hl 0 rfl) ?_
              obtain ⟨v61, e62, h⟩ := gb h
              refine gw_aldJ hx hb hK hI e62 d_So_layAs_104 ?_
              obtain ⟨q65, e66, h⟩ := gb h
              obtain ⟨u63, e64⟩ := gsome h
              refine gw_callJ e64 h (gw_runV (As := [.long v57, .long v61]) (rest := [.long v54, .ref a0]) hx hb hml hown hT hK hZ hA hI (ci := 5) rfl e66 (m_Pl_boardY l hst D g0 a2 v57 v61 w u63 e64) ce_Pl_boardY wd_355 wd_357 ⟨by decide, by decide⟩ rfl rfl hl.1 rfl (lv_room (Nat.le_of_ble_eq_true rfl)) d_So_layAs_105 ⟨(show 0 + 0 ≤ 0 by omega), (show 0 + 0 ≤ 0 by omega)⟩) hI hA hexc (show 0 + 0 ≤ 0 by omega) (show 0 + 0 ≤ 0 by omega) (fun v67 w H locs h hI => ?_)
              obtain ⟨q70, e71, h⟩ := gb h
              obtain ⟨u68, e69⟩ := gsome h
              refine gw_callV e69 h (gw_runV (As := [.long v54, .long v67]) (rest := []) hx hb hml hown hT hK hZ hA hI (ci := 3) rfl e71 (m_So_addCorner l hst D g0 a0 v54 v67 w u68 e69) ce_So_addCorner wd_359 wd_361 ⟨by decide, by decide⟩ rfl rfl hl.1 rfl (lv_room (Nat.le_of_ble_eq_true rfl)) d_So_layAs_108 ⟨(show 0 + 0 ≤ 0 by omega), (show 0 + 0 ≤ 0 by omega)⟩) hI hA hexc (show 0 + 0 ≤ 0 by omega) (show 0 + 0 ≤ 0 by omega) (fun v72 w H locs h hI => ?_)
              refine lv_iinc (v := z36 + 1) (lv' := [(6, .int (z36 + 1)), (7, .int y41), (0, .ref a0), (1, .ref a1), (2, .ref a2), (3, .long p3), (5, .int y14)]) hx hb d_So_layAs_111 hl (k := 6) rfl rfl (by decide) rfl (fun ls hl => ?_)
              refine lv_goto (tgt := 34) hx hb d_So_layAs_114 (by decide) ?_
              exact ih _ w H locs ls h hI (lv_sub hl [2, 3, 4, 5, 6, 0] rfl)
            refine lv_if_eq (tgt := 67) hx hb d_So_layAs_52 (by decide) (fun c73 => ?_) (fun c73 => ?_)
            · skip
              have h := git c73 h
              refine lv_iload hx hb d_So_layAs_67 (lv_at hl 5 rfl) ?_
              exact hK69 _ w H locs ls h hI (lv_sub hl [0, 1, 2, 3, 4, 5] rfl)
            · skip
              have h := gie c73 h
              refine lv_aload_n hx hb d_So_layAs_55 rfl (lv_at hl 1 rfl) ?_
              obtain ⟨v74, e75, h⟩ := gb h
              refine gw_getI hx hb hT hown hK hI (ci := 3) rfl i_3 5 (by decide) wd_139 (fun _ h9 => h9) e75 d_So_layAs_56 ?_
              refine lv_iconst (v := 1) hx hb d_So_layAs_59 (by decide) ?_
              refine lv_isub hx hb d_So_layAs_60 ?_
              refine lv_iload hx hb d_So_layAs_61 (lv_at hl 5 rfl) ?_
              refine lv_isub hx hb d_So_layAs_63 ?_
              refine lv_goto (tgt := 69) hx hb d_So_layAs_64 (by decide) ?_
              exact hK69 _ w H locs ls h hI (lv_sub hl [0, 1, 2, 3, 4, 5] rfl)
    exact hL34 64 _ w H locs ls h hI (lv_sub hl [2, 3, 4, 5, 1, 0] rfl)
  refine lv_icmp_ne (tgt := 28) hx hb d_So_layAs_21 (by decide) (fun c76 => ?_) (fun c76 => ?_)
  · skip
    have h := gie c76 h
    refine lv_iconst (v := 0) hx hb d_So_layAs_28 (by decide) ?_
    exact hK29 _ w H locs ls h hI (lv_sub hl [0, 1, 2, 3] rfl)
  · skip
    have h := git c76 h
    refine lv_iconst (v := 1) hx hb d_So_layAs_24 (by decide) ?_
    refine lv_goto (tgt := 29) hx hb d_So_layAs_25 (by decide) ?_
    exact hK29 _ w H locs ls h hI (lv_sub hl [0, 1, 2, 3] rfl)

abbrev b_La_lay : ByteArray := prog_4_method_2_code
def y_La_lay : MethodName := ⟨"BodySolids$Layout", "lay", "(LBodySolids$Placement;J)V"⟩
theorem d_La_lay_0 : decode b_La_lay 0 = .ok (.aload_n 1, 1) := by decide +kernel
theorem d_La_lay_1 : decode b_La_lay 1 = .ok (.getfield 22, 3) := by decide +kernel
theorem d_La_lay_4 : decode b_La_lay 4 = .ok (.getfield 28, 3) := by decide +kernel
theorem d_La_lay_7 : decode b_La_lay 7 = .ok (.astore 4, 2) := by decide +kernel
theorem d_La_lay_9 : decode b_La_lay 9 = .ok (.aload_n 0, 1) := by decide +kernel
theorem d_La_lay_10 : decode b_La_lay 10 = .ok (.aload 4, 2) := by decide +kernel
theorem d_La_lay_12 : decode b_La_lay 12 = .ok (.invokevirtual 33, 3) := by decide +kernel
theorem d_La_lay_15 : decode b_La_lay 15 = .ok (.bipush 12, 2) := by decide +kernel
theorem d_La_lay_17 : decode b_La_lay 17 = .ok (.invokestatic 39, 3) := by decide +kernel
theorem d_La_lay_20 : decode b_La_lay 20 = .ok (.putfield 17, 3) := by decide +kernel
theorem d_La_lay_23 : decode b_La_lay 23 = .ok (.iconst 0, 1) := by decide +kernel
theorem d_La_lay_24 : decode b_La_lay 24 = .ok (.istore 5, 2) := by decide +kernel
theorem d_La_lay_26 : decode b_La_lay 26 = .ok (.iload 5, 2) := by decide +kernel
theorem d_La_lay_28 : decode b_La_lay 28 = .ok (.aload_n 0, 1) := by decide +kernel
theorem d_La_lay_29 : decode b_La_lay 29 = .ok (.getfield 17, 3) := by decide +kernel
theorem d_La_lay_32 : decode b_La_lay 32 = .ok (.if_icmp .ge 31, 3) := by decide +kernel
theorem d_La_lay_35 : decode b_La_lay 35 = .ok (.aload_n 0, 1) := by decide +kernel
theorem d_La_lay_36 : decode b_La_lay 36 = .ok (.getfield 11, 3) := by decide +kernel
theorem d_La_lay_39 : decode b_La_lay 39 = .ok (.iload 5, 2) := by decide +kernel
theorem d_La_lay_41 : decode b_La_lay 41 = .ok (.aaload, 1) := by decide +kernel
theorem d_La_lay_42 : decode b_La_lay 42 = .ok (.aload 4, 2) := by decide +kernel
theorem d_La_lay_44 : decode b_La_lay 44 = .ok (.iload 5, 2) := by decide +kernel
theorem d_La_lay_46 : decode b_La_lay 46 = .ok (.invokevirtual 45, 3) := by decide +kernel
theorem d_La_lay_49 : decode b_La_lay 49 = .ok (.checkcast 9, 3) := by decide +kernel
theorem d_La_lay_52 : decode b_La_lay 52 = .ok (.aload_n 1, 1) := by decide +kernel
theorem d_La_lay_53 : decode b_La_lay 53 = .ok (.lload_n 2, 1) := by decide +kernel
theorem d_La_lay_54 : decode b_La_lay 54 = .ok (.invokevirtual 49, 3) := by decide +kernel
theorem d_La_lay_57 : decode b_La_lay 57 = .ok (.iinc 5 1, 3) := by decide +kernel
theorem d_La_lay_60 : decode b_La_lay 60 = .ok (.goto (-34), 3) := by decide +kernel
theorem d_La_lay_63 : decode b_La_lay 63 = .ok (.return_, 1) := by decide +kernel
abbrev rm_La_lay : Room := { frames := 3, cells := 0, slots := 0, locals := 74 }
theorem ce_La_lay : gCe y_La_lay (.code y_La_lay b_La_lay 6 none) 6 2 false := gCe.code wd_339 wd_55 wd_337 (by decide) (by decide +kernel)
def f_La_lay_L26 (g0 : gG) (c0 : Nat) (c1 : Nat) (c2 : Int64) (c4 : Nat) (K63 : gW → gX Unit) : Nat → Int32 → gW → gX Unit
  | 0, _, _ => none
  | n + 1, z5, w => (gfI w c0 2 1).bind fun v14 => if v14 ≤ z5 then (K63 w) else ((gfA w c0 2 0).bind fun v17 => (gaA w v17 z5).bind fun v19 => (gck w c4 1).bind fun _ => gbind (f_AL_get g0 c4 z5 w) fun v25 w => (gck w v25 3).bind fun _ => (gck w v19 3).bind fun _ => gbind (f_So_layAs g0 v19 v25 c1 c2 w) fun v32 w => f_La_lay_L26 g0 c0 c1 c2 c4 K63 n (z5 + 1) w)
def f_La_lay (g0 : gG) (a0 : Nat) (a1 : Nat) (p2 : Int64) (w : gW) : gX Unit := (gfA w a1 5 0).bind fun v1 => (gfA w v1 4 0).bind fun v3 => (gck w v3 1).bind fun _ => gbind (f_AL_size g0 v3 w) fun v9 w => gbind (f_Ma_min g0 v9 12 w) fun v12 w => (gp w a0 2 1 (.int v12)).bind fun w => gjoin (fun K63 => f_La_lay_L26 g0 a0 a1 p2 v3 K63 64 0 w) (fun (w : gW) => some (.inr (), w))
set_option maxHeartbeats 4000000 in
set_option maxRecDepth 100000 in
theorem m_La_lay (l : Launch) (hst : l.stackTraces = false) (D : gD) (g0 : gG) (a0 : Nat) (a1 : Nat) (p2 : Int64) (w : gW) (r : (String ⊕ Unit) × gW) (h : f_La_lay g0 a0 a1 p2 w = some r) : gMet l y_La_lay (.code y_La_lay b_La_lay 6 none) rm_La_lay D g0 [.ref a0, .ref a1, .long p2] w (goV r) := by
  refine gw_ofV (by decide +kernel) (Nat.le_of_ble_eq_true rfl) ?_
  intro p e s m below meth c ls args A Q hx hb hml hown hlocks hin hnt hT hK hZ hA hret hexc hthr hI hl
  obtain ⟨H, hH⟩ : ∃ H, H = s.heap := ⟨_, rfl⟩
  rw [← hH] at hI ⊢
  obtain ⟨locs, hlocs⟩ : ∃ z : List Loc, z = [] := ⟨_, rfl⟩
  rw [← hlocs] at hI ⊢
  have hl : lv_has ls 6 [(0, .ref a0), (1, .ref a1), (2, .long p2)] := hl
  unfold f_La_lay at h
  refine lv_aload_n hx hb d_La_lay_0 rfl (lv_at hl 1 rfl) ?_
  obtain ⟨v1, e2, h⟩ := gb h
  refine gw_getA hx hb hT hown hK hI (ci := 5) rfl i_5 0 (by decide) wd_652 (fun _ h9 => h9) e2 d_La_lay_1 ?_
  obtain ⟨v3, e4, h⟩ := gb h
  refine gw_getA hx hb hT hown hK hI (ci := 4) rfl i_4 0 (by decide) wd_237 (fun _ h9 => h9) e4 d_La_lay_4 ?_
  refine lv_astore (lv' := [(4, .ref v3), (0, .ref a0), (1, .ref a1), (2, .long p2)]) hx hb d_La_lay_7 hl (by decide) rfl (fun ls hl => ?_)
  refine lv_aload_n hx hb d_La_lay_9 rfl (lv_at hl 1 rfl) ?_
  refine lv_aload hx hb d_La_lay_10 (lv_at hl 0 rfl) ?_
  obtain ⟨q7, e8, h⟩ := gb h
  obtain ⟨u5, e6⟩ := gsome h
  refine gw_callI e6 h (gw_runV (As := []) (rest := [.ref a0]) hx hb hml hown hT hK hZ hA hI (ci := 1) rfl e8 (m_AL_size l hst D g0 v3 w u5 e6) ce_AL_size wd_340 wd_226 ⟨by decide, by decide⟩ rfl rfl hl.1 rfl (lv_room (Nat.le_of_ble_eq_true rfl)) d_La_lay_12 ⟨(show 0 + 0 ≤ 0 by omega), (show 0 + 0 ≤ 0 by omega)⟩) hI hA hexc (show 0 + 0 ≤ 0 by omega) (show 0 + 0 ≤ 0 by omega) (fun v9 w H locs h hI => ?_)
  refine lv_bipush (v := 12) hx hb d_La_lay_15 (by decide) ?_
  obtain ⟨u10, e11⟩ := gsome h
  refine gw_callI e11 h (gw_runS (As := [.int v9, .int 12]) (rest := [.ref a0]) hx hb hml hown hT hK hZ hA hI (m_Ma_min l hst D g0 v9 12 w u10 e11) ce_Ma_min wd_341 ⟨by decide, by decide⟩ rfl rfl hl.1 rfl (lv_room (Nat.le_of_ble_eq_true rfl)) d_La_lay_17 ⟨(show 0 + 0 ≤ 0 by omega), (show 0 + 0 ≤ 0 by omega)⟩) hI hA hexc (show 0 + 0 ≤ 0 by omega) (show 0 + 0 ≤ 0 by omega) (fun v12 w H locs h hI => ?_)
  obtain ⟨w, e13, h⟩ := gb h
  refine gw_put hx hb hT hown hK hI (ci := 2) rfl i_2 t_2 t_2_ok n_2 1 (by decide) wd_182 (fun _ h9 => h9) rfl (ty := .int) (by decide +kernel) rfl rfl e13 d_La_lay_20 (fun H locs hI => ?_)
  refine lv_iconst (v := 0) hx hb d_La_lay_23 (by decide) ?_
  refine lv_istore (lv' := [(5, .int 0), (4, .ref v3), (0, .ref a0), (1, .ref a1), (2, .long p2)]) hx hb d_La_lay_24 hl (by decide) rfl (fun ls hl => ?_)
  obtain ⟨K63, eK63, h⟩ := gj h
  have hK63 : ∀ (w : gW) (H : Heap) (locs : List Loc) (ls : Array Slot), K63 w = some r → gI D s A w H locs → lv_has ls 6 [] → W p l e rm_La_lay s m args below meth c H locs 0 0 Q (F0 m 63 ls []) := by
    intro w H locs ls h hI hl
    have h := gk1 eK63 h
    exact W.widen (show 0 ≤ 0 by omega) (show 0 ≤ 0 by omega) (hret _ _ (Option.some.inj h).symm _ _ _ _ d_La_lay_63 hI)
  have hL26 : ∀ (n : Nat), ∀ (z14 : Int32) (w : gW) (H : Heap) (locs : List Loc) (ls : Array Slot), f_La_lay_L26 g0 a0 a1 p2 v3 K63 n z14 w = some r → gI D s A w H locs → lv_has ls 6 [(0, .ref a0), (1, .ref a1), (2, .long p2), (4, .ref v3), (5, .int z14)] → W p l e rm_La_lay s m args below meth c H locs 0 0 Q (F0 m 26 ls []) := by
    intro n
    induction n with
    | zero => intro z14 w H locs ls h hI hl; exact absurd h (by simp [f_La_lay_L26])
    | succ n ih =>
      intro z14 w H locs ls h hI hl
      rw [f_La_lay_L26] at h
      refine lv_iload hx hb d_La_lay_26 (lv_at hl 4 rfl) ?_
      refine lv_aload_n hx hb d_La_lay_28 rfl (lv_at hl 0 rfl) ?_
      obtain ⟨v15, e16, h⟩ := gb h
      refine gw_getI hx hb hT hown hK hI (ci := 2) rfl i_2 1 (by decide) wd_182 (fun _ h9 => h9) e16 d_La_lay_29 ?_
      refine lv_icmp_ge (tgt := 63) hx hb d_La_lay_32 (by decide) (fun c17 => ?_) (fun c17 => ?_)
      · skip
        have h := git c17 h
        exact hK63 w H locs ls h hI (lv_sub hl [] rfl)
      · skip
        have h := gie c17 h
        refine lv_aload_n hx hb d_La_lay_35 rfl (lv_at hl 0 rfl) ?_
        obtain ⟨v18, e19, h⟩ := gb h
        refine gw_getA hx hb hT hown hK hI (ci := 2) rfl i_2 0 (by decide) wd_180 (fun _ h9 => h9) e19 d_La_lay_36 ?_
        refine lv_iload hx hb d_La_lay_39 (lv_at hl 4 rfl) ?_
        obtain ⟨v20, e21, h⟩ := gb h
        refine gw_aldA hx hb hK hI e21 d_La_lay_41 ?_
        refine lv_aload hx hb d_La_lay_42 (lv_at hl 3 rfl) ?_
        refine lv_iload hx hb d_La_lay_44 (lv_at hl 4 rfl) ?_
        obtain ⟨q24, e25, h⟩ := gb h
        obtain ⟨u22, e23⟩ := gsome h
        refine gw_callA e23 h (gw_runV (As := [.int z14]) (rest := [.ref v20]) hx hb hml hown hT hK hZ hA hI (ci := 1) rfl e25 (m_AL_get l hst D g0 v3 z14 w u22 e23) ce_AL_get wd_342 wd_323 ⟨by decide, by decide⟩ rfl rfl hl.1 rfl (lv_room (Nat.le_of_ble_eq_true rfl)) d_La_lay_46 ⟨(show 0 + 0 ≤ 0 by omega), (show 0 + 0 ≤ 0 by omega)⟩) hI hA hexc (show 0 + 0 ≤ 0 by omega) (show 0 + 0 ≤ 0 by omega) (fun v26 w H locs h hI => ?_)
        obtain ⟨q28, e27, h⟩ := gb h
        refine gw_cast hx hb hT hown hK hI wd_122 (ci := 3) rfl wd_1120 e27 d_La_lay_49 ?_
        refine lv_aload_n hx hb d_La_lay_52 rfl (lv_at hl 1 rfl) ?_
        refine lv_lload_n hx hb d_La_lay_53 rfl (lv_at hl 2 rfl) ?_
        obtain ⟨q31, e32, h⟩ := gb h
        obtain ⟨u29, e30⟩ := gsome h
        refine gw_callV e30 h (gw_runV (As := [.ref v26, .ref a1, .long p2]) (rest := []) hx hb hml hown hT hK hZ hA hI (ci := 3) rfl e32 (m_So_layAs l hst D g0 v20 v26 a1 p2 w u29 e30) ce_So_layAs wd_343 wd_345 ⟨by decide, by decide⟩ rfl rfl hl.1 rfl (lv_room (Nat.le_of_ble_eq_true rfl)) d_La_lay_54 ⟨(show 0 + 0 ≤ 0 by omega), (show 0 + 0 ≤ 0 by omega)⟩) hI hA hexc (show 0 + 0 ≤ 0 by omega) (show 0 + 0 ≤ 0 by omega) (fun v33 w H locs h hI => ?_)
        refine lv_iinc (v := z14 + 1) (lv' := [(5, .int (z14 + 1)), (0, .ref a0), (1, .ref a1), (2, .long p2), (4, .ref v3)]) hx hb d_La_lay_57 hl (k := 4) rfl rfl (by decide) rfl (fun ls hl => ?_)
        refine lv_goto (tgt := 26) hx hb d_La_lay_60 (by decide) ?_
        exact ih _ w H locs ls h hI (lv_sub hl [1, 2, 3, 4, 0] rfl)
  exact hL26 64 _ w H locs ls h hI (lv_sub hl [2, 3, 4, 1, 0] rfl)

abbrev b_Me_gap : ByteArray := prog_5_method_3_code
def y_Me_gap : MethodName := ⟨"BodySolids$Meeting", "gap", "(JJJJ)J"⟩
theorem d_Me_gap_0 : decode b_Me_gap 0 = .ok (.lload 4, 2) := by decide +kernel
theorem d_Me_gap_2 : decode b_Me_gap 2 = .ok (.lload_n 2, 1) := by decide +kernel
theorem d_Me_gap_3 : decode b_Me_gap 3 = .ok (.lsub, 1) := by decide +kernel
theorem d_Me_gap_4 : decode b_Me_gap 4 = .ok (.lload_n 0, 1) := by decide +kernel
theorem d_Me_gap_5 : decode b_Me_gap 5 = .ok (.lload 6, 2) := by decide +kernel
theorem d_Me_gap_7 : decode b_Me_gap 7 = .ok (.lsub, 1) := by decide +kernel
theorem d_Me_gap_8 : decode b_Me_gap 8 = .ok (.invokestatic 68, 3) := by decide +kernel
theorem d_Me_gap_11 : decode b_Me_gap 11 = .ok (.lreturn, 1) := by decide +kernel
abbrev rm_Me_gap : Room := { frames := 1, cells := 0, slots := 0, locals := 23 }
theorem ce_Me_gap : gCe y_Me_gap (.code y_Me_gap b_Me_gap 8 (some .long)) 8 4 true := gCe.code wd_378 wd_69 wd_377 (by decide) (by decide +kernel)
def f_Me_gap (g0 : gG) (p0 : Int64) (p1 : Int64) (p2 : Int64) (p3 : Int64) (w : gW) : gX Int64 := gbind (f_Ma_max2 g0 (p2 - p1) (p0 - p3) w) fun v3 w => some (.inr v3, w)
set_option maxHeartbeats 4000000 in
set_option maxRecDepth 100000 in
theorem m_Me_gap (l : Launch) (hst : l.stackTraces = false) (D : gD) (g0 : gG) (p0 : Int64) (p1 : Int64) (p2 : Int64) (p3 : Int64) (w : gW) (r : (String ⊕ Int64) × gW) (h : f_Me_gap g0 p0 p1 p2 p3 w = some r) : gMet l y_Me_gap (.code y_Me_gap b_Me_gap 8 (some .long)) rm_Me_gap D g0 [.long p0, .long p1, .long p2, .long p3] w (goJ r) := by
  refine gw_ofJ (by decide +kernel) (Nat.le_of_ble_eq_true rfl) ?_
  intro p e s m below meth c ls args A Q hx hb hml hown hlocks hin hnt hT hK hZ hA hret hexc hthr hI hl
  obtain ⟨H, hH⟩ : ∃ H, H = s.heap := ⟨_, rfl⟩
  rw [← hH] at hI ⊢
  obtain ⟨locs, hlocs⟩ : ∃ z : List Loc, z = [] := ⟨_, rfl⟩
  rw [← hlocs] at hI ⊢
  have hl : lv_has ls 8 [(0, .long p0), (2, .long p1), (4, .long p2), (6, .long p3)] := hl
  unfold f_Me_gap at h
  refine lv_lload hx hb d_Me_gap_0 (lv_at hl 2 rfl) ?_
  refine lv_lload_n hx hb d_Me_gap_2 rfl (lv_at hl 1 rfl) ?_
  refine lv_lsub hx hb d_Me_gap_3 ?_
  refine lv_lload_n hx hb d_Me_gap_4 rfl (lv_at hl 0 rfl) ?_
  refine lv_lload hx hb d_Me_gap_5 (lv_at hl 3 rfl) ?_
  refine lv_lsub hx hb d_Me_gap_7 ?_
  obtain ⟨u1, e2⟩ := gsome h
  refine gw_callJ e2 h (gw_runS (As := [.long (p2 - p1), .long (p0 - p3)]) (rest := []) hx hb hml hown hT hK hZ hA hI (m_Ma_max2 l hst D g0 (p2 - p1) (p0 - p3) w u1 e2) ce_Ma_max2 wd_379 ⟨by decide, by decide⟩ rfl rfl hl.1 rfl (lv_room (Nat.le_of_ble_eq_true rfl)) d_Me_gap_8 ⟨(show 0 + 0 ≤ 0 by omega), (show 0 + 0 ≤ 0 by omega)⟩) hI hA hexc (show 0 + 0 ≤ 0 by omega) (show 0 + 0 ≤ 0 by omega) (fun v3 w H locs h hI => ?_)
  exact W.widen (show 0 ≤ 0 by omega) (show 0 ≤ 0 by omega) (hret _ _ (Option.some.inj h).symm _ _ _ _ d_Me_gap_11 hI)

abbrev b_Me_sign : ByteArray := prog_5_method_4_code
def y_Me_sign : MethodName := ⟨"BodySolids$Meeting", "sign", "(J)I"⟩
theorem d_Me_sign_0 : decode b_Me_sign 0 = .ok (.lload_n 0, 1) := by decide +kernel
theorem d_Me_sign_1 : decode b_Me_sign 1 = .ok (.lconst 0, 1) := by decide +kernel
theorem d_Me_sign_2 : decode b_Me_sign 2 = .ok (.lcmp, 1) := by decide +kernel
theorem d_Me_sign_3 : decode b_Me_sign 3 = .ok (.ifCond .le 7, 3) := by decide +kernel
theorem d_Me_sign_6 : decode b_Me_sign 6 = .ok (.iconst 1, 1) := by decide +kernel
theorem d_Me_sign_7 : decode b_Me_sign 7 = .ok (.goto 14, 3) := by decide +kernel
theorem d_Me_sign_10 : decode b_Me_sign 10 = .ok (.lload_n 0, 1) := by decide +kernel
theorem d_Me_sign_11 : decode b_Me_sign 11 = .ok (.lconst 0, 1) := by decide +kernel
theorem d_Me_sign_12 : decode b_Me_sign 12 = .ok (.lcmp, 1) := by decide +kernel
theorem d_Me_sign_13 : decode b_Me_sign 13 = .ok (.ifCond .ge 7, 3) := by decide +kernel
theorem d_Me_sign_16 : decode b_Me_sign 16 = .ok (.iconst (-1), 1) := by decide +kernel
theorem d_Me_sign_17 : decode b_Me_sign 17 = .ok (.goto 4, 3) := by decide +kernel
theorem d_Me_sign_20 : decode b_Me_sign 20 = .ok (.iconst 0, 1) := by decide +kernel
theorem d_Me_sign_21 : decode b_Me_sign 21 = .ok (.ireturn, 1) := by decide +kernel
abbrev rm_Me_sign : Room := { frames := 0, cells := 0, slots := 0, locals := 0 }
theorem ce_Me_sign : gCe y_Me_sign (.code y_Me_sign b_Me_sign 2 (some .int)) 2 1 true := gCe.code wd_385 wd_69 wd_384 (by decide) (by decide +kernel)
def f_Me_sign (g0 : gG) (p0 : Int64) (w : gW) : gX Int32 := gjoin (fun K21 => if p0 ≤ 0 then (if 0 ≤ p0 then (K21 0 w) else (K21 (-1) w)) else (K21 1 w)) (fun (y1 : Int32) (w : gW) => some (.inr y1, w))
set_option maxHeartbeats 4000000 in
set_option maxRecDepth 100000 in
theorem m_Me_sign (l : Launch) (hst : l.stackTraces = false) (D : gD) (g0 : gG) (p0 : Int64) (w : gW) (r : (String ⊕ Int32) × gW) (h : f_Me_sign g0 p0 w = some r) : gMet l y_Me_sign (.code y_Me_sign b_Me_sign 2 (some .int)) rm_Me_sign D g0 [.long p0] w (goI r) := by
  refine gw_ofI (by decide +kernel) (Nat.le_of_ble_eq_true rfl) ?_
  intro p e s m below meth c ls args A Q hx hb hml hown hlocks hin hnt hT hK hZ hA hret hexc hthr hI hl
  obtain ⟨H, hH⟩ : ∃ H, H = s.heap := ⟨_, rfl⟩
  rw [← hH] at hI ⊢
  obtain ⟨locs, hlocs⟩ : ∃ z : List Loc, z = [] := ⟨_, rfl⟩
  rw [← hlocs] at hI ⊢
  have hl : lv_has ls 2 [(0, .long p0)] := hl
  unfold f_Me_sign at h
  refine lv_lload_n hx hb d_Me_sign_0 rfl (lv_at hl 0 rfl) ?_
  refine lv_lconst (v := 0) hx hb d_Me_sign_1 (by decide) ?_
  refine W.lcmp hx hb d_Me_sign_2 ?_
  obtain ⟨K21, eK21, h⟩ := gj h
  have hK21 : ∀ (y1 : Int32) (w : gW) (H : Heap) (locs : List Loc) (ls : Array Slot), K21 y1 w = some r → gI D s A w H locs → lv_has ls 2 [] → W p l e rm_Me_sign s m args below meth c H locs 0 0 Q (F0 m 21 ls [.int y1]) := by
    intro y1 w H locs ls h hI hl
    have h := gk2 eK21 h
    exact W.widen (show 0 ≤ 0 by omega) (show 0 ≤ 0 by omega) (hret _ _ (Option.some.inj h).symm _ _ _ _ d_Me_sign_21 hI)
  refine lv_if_le (tgt := 10) hx hb d_Me_sign_3 (by decide) (fun c2 => ?_) (fun c2 => ?_)
  · have c2 := (lg_cmp_le _ _).mp c2
    have h := git c2 h
    refine lv_lload_n hx hb d_Me_sign_10 rfl (lv_at hl 0 rfl) ?_
    refine lv_lconst (v := 0) hx hb d_Me_sign_11 (by decide) ?_
    refine W.lcmp hx hb d_Me_sign_12 ?_
    refine lv_if_ge (tgt := 20) hx hb d_Me_sign_13 (by decide) (fun c3 => ?_) (fun c3 => ?_)
    · have c3 := (lg_cmp_ge _ _).mp c3
      have h := git c3 h
      refine lv_iconst (v := 0) hx hb d_Me_sign_20 (by decide) ?_
      exact hK21 _ w H locs ls h hI (lv_sub hl [] rfl)
    · have c3 := mt (lg_cmp_ge _ _).mpr c3
      have h := gie c3 h
      refine lv_iconst (v := -1) hx hb d_Me_sign_16 (by decide) ?_
      refine lv_goto (tgt := 21) hx hb d_Me_sign_17 (by decide) ?_
      exact hK21 _ w H locs ls h hI (lv_sub hl [] rfl)
  · have c2 := mt (lg_cmp_le _ _).mpr c2
    have h := gie c2 h
    refine lv_iconst (v := 1) hx hb d_Me_sign_6 (by decide) ?_
    refine lv_goto (tgt := 21) hx hb d_Me_sign_7 (by decide) ?_
    exact hK21 _ w H locs ls h hI (lv_sub hl [] rfl)

abbrev b_Me_partedBySides : ByteArray := prog_5_method_7_code
def y_Me_partedBySides : MethodName := ⟨"BodySolids$Meeting", "partedBySides", "(LBodySolids$Solid;LBodySolids$Solid;)I"⟩
theorem d_Me_partedBySides_0 : decode b_Me_partedBySides 0 = .ok (.iconst (-1), 1) := by decide +kernel
theorem d_Me_partedBySides_1 : decode b_Me_partedBySides 1 = .ok (.istore_n 2, 1) := by decide +kernel
theorem d_Me_partedBySides_2 : decode b_Me_partedBySides 2 = .ok (.iconst 0, 1) := by decide +kernel
theorem d_Me_partedBySides_3 : decode b_Me_partedBySides 3 = .ok (.istore_n 3, 1) := by decide +kernel
theorem d_Me_partedBySides_4 : decode b_Me_partedBySides 4 = .ok (.iload_n 3, 1) := by decide +kernel
theorem d_Me_partedBySides_5 : decode b_Me_partedBySides 5 = .ok (.aload_n 0, 1) := by decide +kernel
theorem d_Me_partedBySides_6 : decode b_Me_partedBySides 6 = .ok (.getfield 78, 3) := by decide +kernel
theorem d_Me_partedBySides_9 : decode b_Me_partedBySides 9 = .ok (.if_icmp .ge 148, 3) := by decide +kernel
theorem d_Me_partedBySides_12 : decode b_Me_partedBySides 12 = .ok (.iload_n 2, 1) := by decide +kernel
theorem d_Me_partedBySides_13 : decode b_Me_partedBySides 13 = .ok (.iconst 1, 1) := by decide +kernel
theorem d_Me_partedBySides_14 : decode b_Me_partedBySides 14 = .ok (.if_icmp .eq 143, 3) := by decide +kernel
theorem d_Me_partedBySides_17 : decode b_Me_partedBySides 17 = .ok (.iload_n 3, 1) := by decide +kernel
theorem d_Me_partedBySides_18 : decode b_Me_partedBySides 18 = .ok (.iconst 1, 1) := by decide +kernel
theorem d_Me_partedBySides_19 : decode b_Me_partedBySides 19 = .ok (.iadd, 1) := by decide +kernel
theorem d_Me_partedBySides_20 : decode b_Me_partedBySides 20 = .ok (.aload_n 0, 1) := by decide +kernel
theorem d_Me_partedBySides_21 : decode b_Me_partedBySides 21 = .ok (.getfield 78, 3) := by decide +kernel
theorem d_Me_partedBySides_24 : decode b_Me_partedBySides 24 = .ok (.if_icmp .ge 9, 3) := by decide +kernel
theorem d_Me_partedBySides_27 : decode b_Me_partedBySides 27 = .ok (.iload_n 3, 1) := by decide +kernel
theorem d_Me_partedBySides_28 : decode b_Me_partedBySides 28 = .ok (.iconst 1, 1) := by decide +kernel
theorem d_Me_partedBySides_29 : decode b_Me_partedBySides 29 = .ok (.iadd, 1) := by decide +kernel
theorem d_Me_partedBySides_30 : decode b_Me_partedBySides 30 = .ok (.goto 4, 3) := by decide +kernel
theorem d_Me_partedBySides_33 : decode b_Me_partedBySides 33 = .ok (.iconst 0, 1) := by decide +kernel
theorem d_Me_partedBySides_34 : decode b_Me_partedBySides 34 = .ok (.istore 4, 2) := by decide +kernel
theorem d_Me_partedBySides_36 : decode b_Me_partedBySides 36 = .ok (.aload_n 0, 1) := by decide +kernel
theorem d_Me_partedBySides_37 : decode b_Me_partedBySides 37 = .ok (.getfield 81, 3) := by decide +kernel
theorem d_Me_partedBySides_40 : decode b_Me_partedBySides 40 = .ok (.iload 4, 2) := by decide +kernel
theorem d_Me_partedBySides_42 : decode b_Me_partedBySides 42 = .ok (.laload, 1) := by decide +kernel
theorem d_Me_partedBySides_43 : decode b_Me_partedBySides 43 = .ok (.aload_n 0, 1) := by decide +kernel
theorem d_Me_partedBySides_44 : decode b_Me_partedBySides 44 = .ok (.getfield 81, 3) := by decide +kernel
theorem d_Me_partedBySides_47 : decode b_Me_partedBySides 47 = .ok (.iload_n 3, 1) := by decide +kernel
theorem d_Me_partedBySides_48 : decode b_Me_partedBySides 48 = .ok (.laload, 1) := by decide +kernel
theorem d_Me_partedBySides_49 : decode b_Me_partedBySides 49 = .ok (.lsub, 1) := by decide +kernel
theorem d_Me_partedBySides_50 : decode b_Me_partedBySides 50 = .ok (.lstore 5, 2) := by decide +kernel
theorem d_Me_partedBySides_52 : decode b_Me_partedBySides 52 = .ok (.aload_n 0, 1) := by decide +kernel
theorem d_Me_partedBySides_53 : decode b_Me_partedBySides 53 = .ok (.getfield 85, 3) := by decide +kernel
theorem d_Me_partedBySides_56 : decode b_Me_partedBySides 56 = .ok (.iload 4, 2) := by decide +kernel
theorem d_Me_partedBySides_58 : decode b_Me_partedBySides 58 = .ok (.laload, 1) := by decide +kernel
theorem d_Me_partedBySides_59 : decode b_Me_partedBySides 59 = .ok (.aload_n 0, 1) := by decide +kernel
theorem d_Me_partedBySides_60 : decode b_Me_partedBySides 60 = .ok (.getfield 85, 3) := by decide +kernel
theorem d_Me_partedBySides_63 : decode b_Me_partedBySides 63 = .ok (.iload_n 3, 1) := by decide +kernel
theorem d_Me_partedBySides_64 : decode b_Me_partedBySides 64 = .ok (.laload, 1) := by decide +kernel
theorem d_Me_partedBySides_65 : decode b_Me_partedBySides 65 = .ok (.lsub, 1) := by decide +kernel
theorem d_Me_partedBySides_66 : decode b_Me_partedBySides 66 = .ok (.lstore 7, 2) := by decide +kernel
theorem d_Me_partedBySides_68 : decode b_Me_partedBySides 68 = .ok (.iconst 1, 1) := by decide +kernel
theorem d_Me_partedBySides_69 : decode b_Me_partedBySides 69 = .ok (.istore 9, 2) := by decide +kernel
theorem d_Me_partedBySides_71 : decode b_Me_partedBySides 71 = .ok (.iconst 0, 1) := by decide +kernel
theorem d_Me_partedBySides_72 : decode b_Me_partedBySides 72 = .ok (.istore 10, 2) := by decide +kernel
theorem d_Me_partedBySides_74 : decode b_Me_partedBySides 74 = .ok (.iload 10, 2) := by decide +kernel
theorem d_Me_partedBySides_76 : decode b_Me_partedBySides 76 = .ok (.aload_n 1, 1) := by decide +kernel
theorem d_Me_partedBySides_77 : decode b_Me_partedBySides 77 = .ok (.getfield 78, 3) := by decide +kernel
theorem d_Me_partedBySides_80 : decode b_Me_partedBySides 80 = .ok (.if_icmp .ge 64, 3) := by decide +kernel
theorem d_Me_partedBySides_83 : decode b_Me_partedBySides 83 = .ok (.iload 9, 2) := by decide +kernel
theorem d_Me_partedBySides_85 : decode b_Me_partedBySides 85 = .ok (.iconst (-1), 1) := by decide +kernel
theorem d_Me_partedBySides_86 : decode b_Me_partedBySides 86 = .ok (.if_icmp .eq 58, 3) := by decide +kernel
theorem d_Me_partedBySides_89 : decode b_Me_partedBySides 89 = .ok (.lload 7, 2) := by decide +kernel
theorem d_Me_partedBySides_91 : decode b_Me_partedBySides 91 = .ok (.aload_n 1, 1) := by decide +kernel
theorem d_Me_partedBySides_92 : decode b_Me_partedBySides 92 = .ok (.getfield 81, 3) := by decide +kernel
theorem d_Me_partedBySides_95 : decode b_Me_partedBySides 95 = .ok (.iload 10, 2) := by decide +kernel
theorem d_Me_partedBySides_97 : decode b_Me_partedBySides 97 = .ok (.laload, 1) := by decide +kernel
theorem d_Me_partedBySides_98 : decode b_Me_partedBySides 98 = .ok (.aload_n 0, 1) := by decide +kernel
theorem d_Me_partedBySides_99 : decode b_Me_partedBySides 99 = .ok (.getfield 81, 3) := by decide +kernel
theorem d_Me_partedBySides_102 : decode b_Me_partedBySides 102 = .ok (.iload_n 3, 1) := by decide +kernel
theorem d_Me_partedBySides_103 : decode b_Me_partedBySides 103 = .ok (.laload, 1) := by decide +kernel
theorem d_Me_partedBySides_104 : decode b_Me_partedBySides 104 = .ok (.lsub, 1) := by decide +kernel
theorem d_Me_partedBySides_105 : decode b_Me_partedBySides 105 = .ok (.lmul, 1) := by decide +kernel
theorem d_Me_partedBySides_106 : decode b_Me_partedBySides 106 = .ok (.lload 5, 2) := by decide +kernel
theorem d_Me_partedBySides_108 : decode b_Me_partedBySides 108 = .ok (.aload_n 1, 1) := by decide +kernel
theorem d_Me_partedBySides_109 : decode b_Me_partedBySides 109 = .ok (.getfield 85, 3) := by decide +kernel
theorem d_Me_partedBySides_112 : decode b_Me_partedBySides 112 = .ok (.iload 10, 2) := by decide +kernel
theorem d_Me_partedBySides_114 : decode b_Me_partedBySides 114 = .ok (.laload, 1) := by decide +kernel
theorem d_Me_partedBySides_115 : decode b_Me_partedBySides 115 = .ok (.aload_n 0, 1) := by decide +kernel
theorem d_Me_partedBySides_116 : decode b_Me_partedBySides 116 = .ok (.getfield 85, 3) := by decide +kernel
theorem d_Me_partedBySides_119 : decode b_Me_partedBySides 119 = .ok (.iload_n 3, 1) := by decide +kernel
theorem d_Me_partedBySides_120 : decode b_Me_partedBySides 120 = .ok (.laload, 1) := by decide +kernel
theorem d_Me_partedBySides_121 : decode b_Me_partedBySides 121 = .ok (.lsub, 1) := by decide +kernel
theorem d_Me_partedBySides_122 : decode b_Me_partedBySides 122 = .ok (.lmul, 1) := by decide +kernel
theorem d_Me_partedBySides_123 : decode b_Me_partedBySides 123 = .ok (.lsub, 1) := by decide +kernel
theorem d_Me_partedBySides_124 : decode b_Me_partedBySides 124 = .ok (.lstore 11, 2) := by decide +kernel
theorem d_Me_partedBySides_126 : decode b_Me_partedBySides 126 = .ok (.iload 9, 2) := by decide +kernel
theorem d_Me_partedBySides_128 : decode b_Me_partedBySides 128 = .ok (.lload 11, 2) := by decide +kernel
theorem d_Me_partedBySides_130 : decode b_Me_partedBySides 130 = .ok (.invokestatic 50, 3) := by decide +kernel
theorem d_Me_partedBySides_133 : decode b_Me_partedBySides 133 = .ok (.invokestatic 88, 3) := by decide +kernel
theorem d_Me_partedBySides_136 : decode b_Me_partedBySides 136 = .ok (.istore 9, 2) := by decide +kernel
theorem d_Me_partedBySides_138 : decode b_Me_partedBySides 138 = .ok (.iinc 10 1, 3) := by decide +kernel
theorem d_Me_partedBySides_141 : decode b_Me_partedBySides 141 = .ok (.goto (-67), 3) := by decide +kernel
theorem d_Me_partedBySides_144 : decode b_Me_partedBySides 144 = .ok (.iload_n 2, 1) := by decide +kernel
theorem d_Me_partedBySides_145 : decode b_Me_partedBySides 145 = .ok (.iload 9, 2) := by decide +kernel
theorem d_Me_partedBySides_147 : decode b_Me_partedBySides 147 = .ok (.invokestatic 54, 3) := by decide +kernel
theorem d_Me_partedBySides_150 : decode b_Me_partedBySides 150 = .ok (.istore_n 2, 1) := by decide +kernel
theorem d_Me_partedBySides_151 : decode b_Me_partedBySides 151 = .ok (.iinc 3 1, 3) := by decide +kernel
theorem d_Me_partedBySides_154 : decode b_Me_partedBySides 154 = .ok (.goto (-150), 3) := by decide +kernel
theorem d_Me_partedBySides_157 : decode b_Me_partedBySides 157 = .ok (.iload_n 2, 1) := by decide +kernel
theorem d_Me_partedBySides_158 : decode b_Me_partedBySides 158 = .ok (.ireturn, 1) := by decide +kernel
abbrev rm_Me_partedBySides : Room := { frames := 1, cells := 0, slots := 0, locals := 21 }
theorem ce_Me_partedBySides : gCe y_Me_partedBySides (.code y_Me_partedBySides b_Me_partedBySides 13 (some .int)) 13 2 true := gCe.code wd_388 wd_69 wd_387 (by decide) (by decide +kernel)
def f_Me_partedBySides_L74 (g0 : gG) (c0 : Nat) (c1 : Nat) (c2 : Int32) (c3 : Int32) (c5 : Int64) (c7 : Int64) (K144 : Int32 → gW → gX Int32) : Nat → Int32 → Int32 → gW → gX Int32
  | 0, _, _, _ => none
  | n + 1, z9, z10, w => (gfI w c1 3 5).bind fun v29 => if v29 ≤ z10 then (K144 z9 w) else (if z9 = (-1) then (K144 z9 w) else ((gfA w c1 3 3).bind fun v33 => (gaJ w v33 z10).bind fun v35 => (gfA w c0 3 3).bind fun v37 => (gaJ w v37 c3).bind fun v39 => (gfA w c1 3 4).bind fun v41 => (gaJ w v41 z10).bind fun v43 => (gfA w c0 3 4).bind fun v45 => (gaJ w v45 c3).bind fun v47 => gbind (f_Me_sign g0 ((c7 * (v35 - v39)) - (c5 * (v43 - v47))) w) fun v51 w => gbind (f_Ma_min g0 z9 v51 w) fun v54 w => f_Me_partedBySides_L74 g0 c0 c1 c2 c3 c5 c7 K144 n v54 (z10 + 1) w))
def f_Me_partedBySides_L4 (g0 : gG) (c0 : Nat) (c1 : Nat) (K157 : Int32 → gW → gX Int32) : Nat → Int32 → Int32 → gW → gX Int32
  | 0, _, _, _ => none
  | n + 1, z2, z3, w => (gfI w c0 3 5).bind fun v2 => if v2 ≤ z3 then (K157 z2 w) else (if z2 = 1 then (K157 z2 w) else ((gfI w c0 3 5).bind fun v6 => gjoin (fun K34 => if v6 ≤ (z3 + 1) then (K34 0 w) else (K34 (z3 + 1) w)) (fun (y8 : Int32) (w : gW) => (gfA w c0 3 3).bind fun v9 => (gaJ w v9 y8).bind fun v11 => (gfA w c0 3 3).bind fun v13 => (gaJ w v13 z3).bind fun v15 => (gfA w c0 3 4).bind fun v17 => (gaJ w v17 y8).bind fun v19 => (gfA w c0 3 4).bind fun v21 => (gaJ w v21 z3).bind fun v23 => gjoin (fun K144 => f_Me_partedBySides_L74 g0 c0 c1 z2 z3 (v11 - v15) (v19 - v23) K144 64 1 0 w) (fun (x25 : Int32) (w : gW) => gbind (f_Ma_max g0 z2 x25 w) fun v28 w => f_Me_partedBySides_L4 g0 c0 c1 K157 n v28 (z3 + 1) w))))
def f_Me_partedBySides (g0 : gG) (a0 : Nat) (a1 : Nat) (w : gW) : gX Int32 := gjoin (fun K157 => f_Me_partedBySides_L4 g0 a0 a1 K157 64 (-1) 0 w) (fun (x1 : Int32) (w : gW) => some (.inr x1, w))
set_option maxHeartbeats 4000000 in
set_option maxRecDepth 100000 in
theorem m_Me_partedBySides (l : Launch) (hst : l.stackTraces = false) (D : gD) (g0 : gG) (a0 : Nat) (a1 : Nat) (w : gW) (r : (String ⊕ Int32) × gW) (h : f_Me_partedBySides g0 a0 a1 w = some r) : gMet l y_Me_partedBySides (.code y_Me_partedBySides b_Me_partedBySides 13 (some .int)) rm_Me_partedBySides D g0 [.ref a0, .ref a1] w (goI r) := by
  refine gw_ofI (by decide +kernel) (Nat.le_of_ble_eq_true rfl) ?_
  intro p e s m below meth c ls args A Q hx hb hml hown hlocks hin hnt hT hK hZ hA hret hexc hthr hI hl
  obtain ⟨H, hH⟩ : ∃ H, H = s.heap := ⟨_, rfl⟩
  rw [← hH] at hI ⊢
  obtain ⟨locs, hlocs⟩ : ∃ z : List Loc, z = [] := ⟨_, rfl⟩
  rw [← hlocs] at hI ⊢
  have hl : lv_has ls 13 [(0, .ref a0), (1, .ref a1)] := hl
  unfold f_Me_partedBySides at h
  refine lv_iconst (v := -1) hx hb d_Me_partedBySides_0 (by decide) ?_
  refine lv_istore_n (lv' := [(2, .int (-1)), (0, .ref a0), (1, .ref a1)]) hx hb d_Me_partedBySides_1 rfl hl (by decide) rfl (fun ls hl => ?_)
  refine lv_iconst (v := 0) hx hb d_Me_partedBySides_2 (by decide) ?_
  refine lv_istore_n (lv' := [(3, .int 0), (2, .int (-1)), (0, .ref a0), (1, .ref a1)]) hx hb d_Me_partedBySides_3 rfl hl (by decide) rfl (fun ls hl => ?_)
  obtain ⟨K157, eK157, h⟩ := gj h
  have hK157 : ∀ (x1 : Int32) (w : gW) (H : Heap) (locs : List Loc) (ls : Array Slot), K157 x1 w = some r → gI D s A w H locs → lv_has ls 13 [(2, .int x1)] → W p l e rm_Me_partedBySides s m args below meth c H locs 0 0 Q (F0 m 157 ls []) := by
    intro x1 w H locs ls h hI hl
    have h := gk2 eK157 h
    refine lv_iload_n hx hb d_Me_partedBySides_157 rfl (lv_at hl 0 rfl) ?_
    exact W.widen (show 0 ≤ 0 by omega) (show 0 ≤ 0 by omega) (hret _ _ (Option.some.inj h).symm _ _ _ _ d_Me_partedBySides_158 hI)
  have hL4 : ∀ (n : Nat), ∀ (z2 : Int32) (z3 : Int32) (w : gW) (H : Heap) (locs : List Loc) (ls : Array Slot), f_Me_partedBySides_L4 g0 a0 a1 K157 n z2 z3 w = some r → gI D s A w H locs → lv_has ls 13 [(0, .ref a0), (1, .ref a1), (2, .int z2), (3, .int z3)] → W p l e rm_Me_partedBySides s m args below meth c H locs 0 0 Q (F0 m 4 ls []) := by
    intro n
    induction n with
    | zero => intro z2 z3 w H locs ls h hI hl; exact absurd h (by simp [f_Me_partedBySides_L4])
    | succ n ih =>
      intro z2 z3 w H locs ls h hI hl
      rw [f_Me_partedBySides_L4] at h
      refine lv_iload_n hx hb d_Me_partedBySides_4 rfl (lv_at hl 3 rfl) ?_
      refine lv_aload_n hx hb d_Me_partedBySides_5 rfl (lv_at hl 0 rfl) ?_
      obtain ⟨v4, e5, h⟩ := gb h
      refine gw_getI hx hb hT hown hK hI (ci := 3) rfl i_3 5 (by decide) wd_140 (fun _ h9 => h9) e5 d_Me_partedBySides_6 ?_
      refine lv_icmp_ge (tgt := 157) hx hb d_Me_partedBySides_9 (by decide) (fun c6 => ?_) (fun c6 => ?_)
      · skip
        have h := git c6 h
        exact hK157 _ w H locs ls h hI (lv_sub hl [2] rfl)
      · skip
        have h := gie c6 h
        refine lv_iload_n hx hb d_Me_partedBySides_12 rfl (lv_at hl 2 rfl) ?_
        refine lv_iconst (v := 1) hx hb d_Me_partedBySides_13 (by decide) ?_
        refine lv_icmp_eq (tgt := 157) hx hb d_Me_partedBySides_14 (by decide) (fun c7 => ?_) (fun c7 => ?_)
        · skip
          have h := git c7 h
          exact hK157 _ w H locs ls h hI (lv_sub hl [2] rfl)
        · skip
          have h := gie c7 h
          refine lv_iload_n hx hb d_Me_partedBySides_17 rfl (lv_at hl 3 rfl) ?_
          refine lv_iconst (v := 1) hx hb d_Me_partedBySides_18 (by decide) ?_
          refine lv_iadd hx hb d_Me_partedBySides_19 ?_
          refine lv_aload_n hx hb d_Me_partedBySides_20 rfl (lv_at hl 0 rfl) ?_
          obtain ⟨v8, e9, h⟩ := gb h
          refine gw_getI hx hb hT hown hK hI (ci := 3) rfl i_3 5 (by decide) wd_140 (fun _ h9 => h9) e9 d_Me_partedBySides_21 ?_
          obtain ⟨K34, eK34, h⟩ := gj h
          have hK34 : ∀ (y10 : Int32) (w : gW) (H : Heap) (locs : List Loc) (ls : Array Slot), K34 y10 w = some r → gI D s A w H locs → lv_has ls 13 [(0, .ref a0), (1, .ref a1), (2, .int z2), (3, .int z3)] → W p l e rm_Me_partedBySides s m args below meth c H locs 0 0 Q (F0 m 34 ls [.int y10]) := by
            intro y10 w H locs ls h hI hl
            have h := gk2 eK34 h
            refine lv_istore (lv' := [(4, .int y10), (0, .ref a0), (1, .ref a1), (2, .int z2), (3, .int z3)]) hx hb d_Me_partedBySides_34 hl (by decide) rfl (fun ls hl => ?_)
            refine lv_aload_n hx hb d_Me_partedBySides_36 rfl (lv_at hl 1 rfl) ?_
            obtain ⟨v11, e12, h⟩ := gb h
            refine gw_getA hx hb hT hown hK hI (ci := 3) rfl i_3 3 (by decide) wd_136 (fun _ h9 => h9) e12 d_Me_partedBySides_37 ?_
            refine lv_iload hx hb d_Me_partedBySides_40 (lv_at hl 0 rfl) ?_
            obtain ⟨v13, e14, h⟩ := gb h
            refine gw_aldJ hx hb hK hI e14 d_Me_partedBySides_42 ?_
            refine lv_aload_n hx hb d_Me_partedBySides_43 rfl (lv_at hl 1 rfl) ?_
            obtain ⟨v15, e16, h⟩ := gb h
            refine gw_getA hx hb hT hown hK hI (ci := 3) rfl i_3 3 (by decide) wd_136 (fun _ h9 => h9) e16 d_Me_partedBySides_44 ?_
            refine lv_iload_n hx hb d_Me_partedBySides_47 rfl (lv_at hl 4 rfl) ?_
            obtain ⟨v17, e18, h⟩ := gb h
            refine gw_aldJ hx hb hK hI e18 d_Me_partedBySides_48 ?_
            refine lv_lsub hx hb d_Me_partedBySides_49 ?_
            refine lv_lstore (lv' := [(5, .long (v13 - v17)), (4, .int y10), (0, .ref a0), (1, .ref a1), (2, .int z2), (3, .int z3)]) hx hb d_Me_partedBySides_50 hl (by decide) rfl (fun ls hl => ?_)
            refine lv_aload_n hx hb d_Me_partedBySides_52 rfl (lv_at hl 2 rfl) ?_
            obtain ⟨v19, e20, h⟩ := gb h
            refine gw_getA hx hb hT hown hK hI (ci := 3) rfl i_3 4 (by decide) wd_138 (fun _ h9 => h9) e20 d_Me_partedBySides_53 ?_
            refine lv_iload hx hb d_Me_partedBySides_56 (lv_at hl 1 rfl) ?_
            obtain ⟨v21, e22, h⟩ := gb h
            refine gw_aldJ hx hb hK hI e22 d_Me_partedBySides_58 ?_
            refine lv_aload_n hx hb d_Me_partedBySides_59 rfl (lv_at hl 2 rfl) ?_
            obtain ⟨v23, e24, h⟩ := gb h
            refine gw_getA hx hb hT hown hK hI (ci := 3) rfl i_3 4 (by decide) wd_138 (fun _ h9 => h9) e24 d_Me_partedBySides_60 ?_
            refine lv_iload_n hx hb d_Me_partedBySides_63 rfl (lv_at hl 5 rfl) ?_
            obtain ⟨v25, e26, h⟩ := gb h
            refine gw_aldJ hx hb hK hI e26 d_Me_partedBySides_64 ?_
            refine lv_lsub hx hb d_Me_partedBySides_65 ?_
            refine lv_lstore (lv' := [(7, .long (v21 - v25)), (5, .long (v13 - v17)), (4, .int y10), (0, .ref a0), (1, .ref a1), (2, .int z2), (3, .int z3)]) hx hb d_Me_partedBySides_66 hl (by decide) rfl (fun ls hl => ?_)
            refine lv_iconst (v := 1) hx hb d_Me_partedBySides_68 (by decide) ?_
            refine lv_istore (lv' := [(9, .int 1), (7, .long (v21 - v25)), (5, .long (v13 - v17)), (4, .int y10), (0, .ref a0), (1, .ref a1), (2, .int z2), (3, .int z3)]) hx hb d_Me_partedBySides_69 hl (by decide) rfl (fun ls hl => ?_)
            refine lv_iconst (v := 0) hx hb d_Me_partedBySides_71 (by decide) ?_
            refine lv_istore (lv' := [(10, .int 0), (9, .int 1), (7, .long (v21 - v25)), (5, .long (v13 - v17)), (4, .int y10), (0, .ref a0), (1, .ref a1), (2, .int z2), (3, .int z3)]) hx hb d_Me_partedBySides_72 hl (by decide) rfl (fun ls hl => ?_)
            obtain ⟨K144, eK144, h⟩ := gj h
            have hK144 : ∀ (x27 : Int32) (w : gW) (H : Heap) (locs : List Loc) (ls : Array Slot), K144 x27 w = some r → gI D s A w H locs → lv_has ls 13 [(0, .ref a0), (1, .ref a1), (2, .int z2), (3, .int z3), (9, .int x27)] → W p l e rm_Me_partedBySides s m args below meth c H locs 0 0 Q (F0 m 144 ls []) := by
              intro x27 w H locs ls h hI hl
              have h := gk2 eK144 h
              refine lv_iload_n hx hb d_Me_partedBySides_144 rfl (lv_at hl 2 rfl) ?_
              refine lv_iload hx hb d_Me_partedBySides_145 (lv_at hl 4 rfl) ?_
              obtain ⟨u28, e29⟩ := gsome h
              refine gw_callI e29 h (gw_runS (As := [.int z2, .int x27]) (rest := []) hx hb hml hown hT hK hZ hA hI (m_Ma_max l hst D g0 z2 x27 w u28 e29) ce_Ma_max wd_390 ⟨by decide, by decide⟩ rfl rfl hl.1 rfl (lv_room (Nat.le_of_ble_eq_true rfl)) d_Me_partedBySides_147 ⟨(show 0 + 0 ≤ 0 by omega), (show 0 + 0 ≤ 0 by omega)⟩) hI hA hexc (show 0 + 0 ≤ 0 by omega) (show 0 + 0 ≤ 0 by omega) (fun v30 w H locs h hI => ?_)
              refine lv_istore_n (lv' := [(2, .int v30), (0, .ref a0), (1, .ref a1), (3, .int z3), (9, .int x27)]) hx hb d_Me_partedBySides_150 rfl hl (by decide) rfl (fun ls hl => ?_)
              refine lv_iinc (v := z3 + 1) (lv' := [(3, .int (z3 + 1)), (2, .int v30), (0, .ref a0), (1, .ref a1), (9, .int x27)]) hx hb d_Me_partedBySides_151 hl (k := 3) rfl rfl (by decide) rfl (fun ls hl => ?_)
              refine lv_goto (tgt := 4) hx hb d_Me_partedBySides_154 (by decide) ?_
              exact ih _ _ w H locs ls h hI (lv_sub hl [2, 3, 1, 0] rfl)
            have hL74 : ∀ (n : Nat), ∀ (z31 : Int32) (z32 : Int32) (w : gW) (H : Heap) (locs : List Loc) (ls : Array Slot), f_Me_partedBySides_L74 g0 a0 a1 z2 z3 (v13 - v17) (v21 - v25) K144 n z31 z32 w = some r → gI D s A w H locs → lv_has ls 13 [(0, .ref a0), (1, .ref a1), (2, .int z2), (3, .int z3), (5, .long (v13 - v17)), (7, .long (v21 - v25)), (9, .int z31), (10, .int z32)] → W p l e rm_Me_partedBySides s m args below meth c H locs 0 0 Q (F0 m 74 ls []) := by
              intro n
              induction n with
              | zero => intro z31 z32 w H locs ls h hI hl; exact absurd h (by simp [f_Me_partedBySides_L74])
              | succ n ih =>
                intro z31 z32 w H locs ls h hI hl
                rw [f_Me_partedBySides_L74] at h
                refine lv_iload hx hb d_Me_partedBySides_74 (lv_at hl 7 rfl) ?_
                refine lv_aload_n hx hb d_Me_partedBySides_76 rfl (lv_at hl 1 rfl) ?_
                obtain ⟨v33, e34, h⟩ := gb h
                refine gw_getI hx hb hT hown hK hI (ci := 3) rfl i_3 5 (by decide) wd_140 (fun _ h9 => h9) e34 d_Me_partedBySides_77 ?_
                refine lv_icmp_ge (tgt := 144) hx hb d_Me_partedBySides_80 (by decide) (fun c35 => ?_) (fun c35 => ?_)
                · skip
                  have h := git c35 h
                  exact hK144 _ w H locs ls h hI (lv_sub hl [0, 1, 2, 3, 6] rfl)
                · skip
                  have h := gie c35 h
                  refine lv_iload hx hb d_Me_partedBySides_83 (lv_at hl 6 rfl) ?_
                  refine lv_iconst (v := -1) hx hb d_Me_partedBySides_85 (by decide) ?_
                  refine lv_icmp_eq (tgt := 144) hx hb d_Me_partedBySides_86 (by decide) (fun c36 => ?_) (fun c36 => ?_)
                  · skip
                    have h := git c36 h
                    exact hK144 _ w H locs ls h hI (lv_sub hl [0, 1, 2, 3, 6] rfl)
                  · skip
                    have h := gie c36 h
                    refine lv_lload hx hb d_Me_partedBySides_89 (lv_at hl 5 rfl) ?_
                    refine lv_aload_n hx hb d_Me_partedBySides_91 rfl (lv_at hl 1 rfl) ?_
                    obtain ⟨v37, e38, h⟩ := gb h
                    refine gw_getA hx hb hT hown hK hI (ci := 3) rfl i_3 3 (by decide) wd_136 (fun _ h9 => h9) e38 d_Me_partedBySides_92 ?_
                    refine lv_iload hx hb d_Me_partedBySides_95 (lv_at hl 7 rfl) ?_
                    obtain ⟨v39, e40, h⟩ := gb h
                    refine gw_aldJ hx hb hK hI e40 d_Me_partedBySides_97 ?_
                    refine lv_aload_n hx hb d_Me_partedBySides_98 rfl (lv_at hl 0 rfl) ?_
                    obtain ⟨v41, e42, h⟩ := gb h
                    refine gw_getA hx hb hT hown hK hI (ci := 3) rfl i_3 3 (by decide) wd_136 (fun _ h9 => h9) e42 d_Me_partedBySides_99 ?_
                    refine lv_iload_n hx hb d_Me_partedBySides_102 rfl (lv_at hl 3 rfl) ?_
                    obtain ⟨v43, e44, h⟩ := gb h
                    refine gw_aldJ hx hb hK hI e44 d_Me_partedBySides_103 ?_
                    refine lv_lsub hx hb d_Me_partedBySides_104 ?_
                    refine lv_lmul hx hb d_Me_partedBySides_105 ?_
                    refine lv_lload hx hb d_Me_partedBySides_106 (lv_at hl 4 rfl) ?_
                    refine lv_aload_n hx hb d_Me_partedBySides_108 rfl (lv_at hl 1 rfl) ?_
                    obtain ⟨v45, e46, h⟩ := gb h
                    refine gw_getA hx hb hT hown hK hI (ci := 3) rfl i_3 4 (by decide) wd_138 (fun _ h9 => h9) e46 d_Me_partedBySides_109 ?_
                    refine lv_iload hx hb d_Me_partedBySides_112 (lv_at hl 7 rfl) ?_
                    obtain ⟨v47, e48, h⟩ := gb h
                    refine gw_aldJ hx hb hK hI e48 d_Me_partedBySides_114 ?_
                    refine lv_aload_n hx hb d_Me_partedBySides_115 rfl (lv_at hl 0 rfl) ?_
                    obtain ⟨v49, e50, h⟩ := gb h
                    refine gw_getA hx hb hT hown hK hI (ci := 3) rfl i_3 4 (by decide) wd_138 (fun _ h9 => h9) e50 d_Me_partedBySides_116 ?_
                    refine lv_iload_n hx hb d_Me_partedBySides_119 rfl (lv_at hl 3 rfl) ?_
                    obtain ⟨v51, e52, h⟩ := gb h
                    refine gw_aldJ hx hb hK hI e52 d_Me_partedBySides_120 ?_
                    refine lv_lsub hx hb d_Me_partedBySides_121 ?_
                    refine lv_lmul hx hb d_Me_partedBySides_122 ?_
                    refine lv_lsub hx hb d_Me_partedBySides_123 ?_
                    refine lv_lstore (lv' := [(11, .long (((v21 - v25) * (v39 - v43)) - ((v13 - v17) * (v47 - v51)))), (0, .ref a0), (1, .ref a1), (2, .int z2), (3, .int z3), (5, .long (v13 - v17)), (7, .long (v21 - v25)), (9, .int z31), (10, .int z32)]) hx hb d_Me_partedBySides_124 hl (by decide) rfl (fun ls hl => ?_)
                    refine lv_iload hx hb d_Me_partedBySides_126 (lv_at hl 7 rfl) ?_
                    refine lv_lload hx hb d_Me_partedBySides_128 (lv_at hl 0 rfl) ?_
                    obtain ⟨u53, e54⟩ := gsome h
                    refine gw_callI e54 h (gw_runS (As := [.long (((v21 - v25) * (v39 - v43)) - ((v13 - v17) * (v47 - v51)))]) (rest := [.int z31]) hx hb hml hown hT hK hZ hA hI (m_Me_sign l hst D g0 (((v21 - v25) * (v39 - v43)) - ((v13 - v17) * (v47 - v51))) w u53 e54) ce_Me_sign wd_383 ⟨by decide, by decide⟩ rfl rfl hl.1 rfl (lv_room (Nat.le_of_ble_eq_true rfl)) d_Me_partedBySides_130 ⟨(show 0 + 0 ≤ 0 by omega), (show 0 + 0 ≤ 0 by omega)⟩) hI hA hexc (show 0 + 0 ≤ 0 by omega) (show 0 + 0 ≤ 0 by omega) (fun v55 w H locs h hI => ?_)
                    obtain ⟨u56, e57⟩ := gsome h
                    refine gw_callI e57 h (gw_runS (As := [.int z31, .int v55]) (rest := []) hx hb hml hown hT hK hZ hA hI (m_Ma_min l hst D g0 z31 v55 w u56 e57) ce_Ma_min wd_389 ⟨by decide, by decide⟩ rfl rfl hl.1 rfl (lv_room (Nat.le_of_ble_eq_true rfl)) d_Me_partedBySides_133 ⟨(show 0 + 0 ≤ 0 by omega), (show 0 + 0 ≤ 0 by omega)⟩) hI hA hexc (show 0 + 0 ≤ 0 by omega) (show 0 + 0 ≤ 0 by omega) (fun v58 w H locs h hI => ?_)
                    refine lv_istore (lv' := [(9, .int v58), (11, .long (((v21 - v25) * (v39 - v43)) - ((v13 - v17) * (v47 - v51)))), (0, .ref a0), (1, .ref a1), (2, .int z2), (3, .int z3), (5, .long (v13 - v17)), (7, .long (v21 - v25)), (10, .int z32)]) hx hb d_Me_partedBySides_136 hl (by decide) rfl (fun ls hl => ?_)
                    refine lv_iinc (v := z32 + 1) (lv' := [(10, .int (z32 + 1)), (9, .int v58), (11, .long (((v21 - v25) * (v39 - v43)) - ((v13 - v17) * (v47 - v51)))), (0, .ref a0), (1, .ref a1), (2, .int z2), (3, .int z3), (5, .long (v13 - v17)), (7, .long (v21 - v25))]) hx hb d_Me_partedBySides_138 hl (k := 8) rfl rfl (by decide) rfl (fun ls hl => ?_)
                    refine lv_goto (tgt := 74) hx hb d_Me_partedBySides_141 (by decide) ?_
                    exact ih _ _ w H locs ls h hI (lv_sub hl [3, 4, 5, 6, 7, 8, 1, 0] rfl)
            exact hL74 64 _ _ w H locs ls h hI (lv_sub hl [5, 6, 7, 8, 3, 2, 1, 0] rfl)
          refine lv_icmp_ge (tgt := 33) hx hb d_Me_partedBySides_24 (by decide) (fun c59 => ?_) (fun c59 => ?_)
          · skip
            have h := git c59 h
            refine lv_iconst (v := 0) hx hb d_Me_partedBySides_33 (by decide) ?_
            exact hK34 _ w H locs ls h hI (lv_sub hl [0, 1, 2, 3] rfl)
          · skip
            have h := gie c59 h
            refine lv_iload_n hx hb d_Me_partedBySides_27 rfl (lv_at hl 3 rfl) ?_
            refine lv_iconst (v := 1) hx hb d_Me_partedBySides_28 (by decide) ?_
            refine lv_iadd hx hb d_Me_partedBySides_29 ?_
            refine lv_goto (tgt := 34) hx hb d_Me_partedBySides_30 (by decide) ?_
            exact hK34 _ w H locs ls h hI (lv_sub hl [0, 1, 2, 3] rfl)
  exact hL4 64 _ _ w H locs ls h hI (lv_sub hl [2, 3, 1, 0] rfl)
