abbrev b_M_keepOut : ByteArray := prog_9_method_57_code
def y_M_keepOut : MethodName := ⟨"BodySolidsModel", "keepOut", "(JJJJIJ)Z"⟩
theorem d_M_keepOut_0 : decode b_M_keepOut 0 = .ok (.lload_n 1, 1) := by decide +kernel
theorem d_M_keepOut_1 : decode b_M_keepOut 1 = .ok (.invokestatic 266, 3) := by decide +kernel
theorem d_M_keepOut_4 : decode b_M_keepOut 4 = .ok (.ifCond .eq 44, 3) := by decide +kernel
theorem d_M_keepOut_7 : decode b_M_keepOut 7 = .ok (.lload_n 3, 1) := by decide +kernel
theorem d_M_keepOut_8 : decode b_M_keepOut 8 = .ok (.invokestatic 266, 3) := by decide +kernel
theorem d_M_keepOut_11 : decode b_M_keepOut 11 = .ok (.ifCond .eq 37, 3) := by decide +kernel
theorem d_M_keepOut_14 : decode b_M_keepOut 14 = .ok (.lload 5, 2) := by decide +kernel
theorem d_M_keepOut_16 : decode b_M_keepOut 16 = .ok (.invokestatic 266, 3) := by decide +kernel
theorem d_M_keepOut_19 : decode b_M_keepOut 19 = .ok (.ifCond .eq 29, 3) := by decide +kernel
theorem d_M_keepOut_22 : decode b_M_keepOut 22 = .ok (.lload 7, 2) := by decide +kernel
theorem d_M_keepOut_24 : decode b_M_keepOut 24 = .ok (.invokestatic 266, 3) := by decide +kernel
theorem d_M_keepOut_27 : decode b_M_keepOut 27 = .ok (.ifCond .eq 21, 3) := by decide +kernel
theorem d_M_keepOut_30 : decode b_M_keepOut 30 = .ok (.lload_n 1, 1) := by decide +kernel
theorem d_M_keepOut_31 : decode b_M_keepOut 31 = .ok (.lload 5, 2) := by decide +kernel
theorem d_M_keepOut_33 : decode b_M_keepOut 33 = .ok (.lcmp, 1) := by decide +kernel
theorem d_M_keepOut_34 : decode b_M_keepOut 34 = .ok (.ifCond .ge 14, 3) := by decide +kernel
theorem d_M_keepOut_37 : decode b_M_keepOut 37 = .ok (.lload_n 3, 1) := by decide +kernel
theorem d_M_keepOut_38 : decode b_M_keepOut 38 = .ok (.lload 7, 2) := by decide +kernel
theorem d_M_keepOut_40 : decode b_M_keepOut 40 = .ok (.lcmp, 1) := by decide +kernel
theorem d_M_keepOut_41 : decode b_M_keepOut 41 = .ok (.ifCond .ge 7, 3) := by decide +kernel
theorem d_M_keepOut_44 : decode b_M_keepOut 44 = .ok (.iconst 1, 1) := by decide +kernel
theorem d_M_keepOut_45 : decode b_M_keepOut 45 = .ok (.goto 4, 3) := by decide +kernel
theorem d_M_keepOut_48 : decode b_M_keepOut 48 = .ok (.iconst 0, 1) := by decide +kernel
theorem d_M_keepOut_49 : decode b_M_keepOut 49 = .ok (.istore 12, 2) := by decide +kernel
theorem d_M_keepOut_51 : decode b_M_keepOut 51 = .ok (.aload_n 0, 1) := by decide +kernel
theorem d_M_keepOut_52 : decode b_M_keepOut 52 = .ok (.iload 12, 2) := by decide +kernel
theorem d_M_keepOut_54 : decode b_M_keepOut 54 = .ok (.ifCond .eq 30, 3) := by decide +kernel
theorem d_M_keepOut_57 : decode b_M_keepOut 57 = .ok (.iload 9, 2) := by decide +kernel
theorem d_M_keepOut_59 : decode b_M_keepOut 59 = .ok (.ifCond .eq 9, 3) := by decide +kernel
theorem d_M_keepOut_62 : decode b_M_keepOut 62 = .ok (.iload 9, 2) := by decide +kernel
theorem d_M_keepOut_64 : decode b_M_keepOut 64 = .ok (.iconst 1, 1) := by decide +kernel
theorem d_M_keepOut_65 : decode b_M_keepOut 65 = .ok (.if_icmp .ne 19, 3) := by decide +kernel
theorem d_M_keepOut_68 : decode b_M_keepOut 68 = .ok (.lload 10, 2) := by decide +kernel
theorem d_M_keepOut_70 : decode b_M_keepOut 70 = .ok (.lconst 0, 1) := by decide +kernel
theorem d_M_keepOut_71 : decode b_M_keepOut 71 = .ok (.ldc2_w 264, 3) := by decide +kernel
theorem d_M_keepOut_74 : decode b_M_keepOut 74 = .ok (.invokestatic 88, 3) := by decide +kernel
theorem d_M_keepOut_77 : decode b_M_keepOut 77 = .ok (.ifCond .eq 7, 3) := by decide +kernel
theorem d_M_keepOut_80 : decode b_M_keepOut 80 = .ok (.iconst 0, 1) := by decide +kernel
theorem d_M_keepOut_81 : decode b_M_keepOut 81 = .ok (.goto 4, 3) := by decide +kernel
theorem d_M_keepOut_84 : decode b_M_keepOut 84 = .ok (.iconst 1, 1) := by decide +kernel
theorem d_M_keepOut_85 : decode b_M_keepOut 85 = .ok (.putfield 80, 3) := by decide +kernel
theorem d_M_keepOut_88 : decode b_M_keepOut 88 = .ok (.aload_n 0, 1) := by decide +kernel
theorem d_M_keepOut_89 : decode b_M_keepOut 89 = .ok (.getfield 80, 3) := by decide +kernel
theorem d_M_keepOut_92 : decode b_M_keepOut 92 = .ok (.ifCond .ne 12, 3) := by decide +kernel
theorem d_M_keepOut_95 : decode b_M_keepOut 95 = .ok (.aload_n 0, 1) := by decide +kernel
theorem d_M_keepOut_96 : decode b_M_keepOut 96 = .ok (.getfield 269, 3) := by decide +kernel
theorem d_M_keepOut_99 : decode b_M_keepOut 99 = .ok (.bipush 10, 2) := by decide +kernel
theorem d_M_keepOut_101 : decode b_M_keepOut 101 = .ok (.if_icmp .ne 5, 3) := by decide +kernel
theorem d_M_keepOut_104 : decode b_M_keepOut 104 = .ok (.iconst 0, 1) := by decide +kernel
theorem d_M_keepOut_105 : decode b_M_keepOut 105 = .ok (.ireturn, 1) := by decide +kernel
theorem d_M_keepOut_106 : decode b_M_keepOut 106 = .ok (.bipush 6, 2) := by decide +kernel
theorem d_M_keepOut_108 : decode b_M_keepOut 108 = .ok (.aload_n 0, 1) := by decide +kernel
theorem d_M_keepOut_109 : decode b_M_keepOut 109 = .ok (.getfield 269, 3) := by decide +kernel
theorem d_M_keepOut_112 : decode b_M_keepOut 112 = .ok (.imul, 1) := by decide +kernel
theorem d_M_keepOut_113 : decode b_M_keepOut 113 = .ok (.istore 13, 2) := by decide +kernel
theorem d_M_keepOut_115 : decode b_M_keepOut 115 = .ok (.aload_n 0, 1) := by decide +kernel
theorem d_M_keepOut_116 : decode b_M_keepOut 116 = .ok (.getfield 50, 3) := by decide +kernel
theorem d_M_keepOut_119 : decode b_M_keepOut 119 = .ok (.iload 13, 2) := by decide +kernel
theorem d_M_keepOut_121 : decode b_M_keepOut 121 = .ok (.lload_n 1, 1) := by decide +kernel
theorem d_M_keepOut_122 : decode b_M_keepOut 122 = .ok (.lastore, 1) := by decide +kernel
theorem d_M_keepOut_123 : decode b_M_keepOut 123 = .ok (.aload_n 0, 1) := by decide +kernel
theorem d_M_keepOut_124 : decode b_M_keepOut 124 = .ok (.getfield 50, 3) := by decide +kernel
theorem d_M_keepOut_127 : decode b_M_keepOut 127 = .ok (.iload 13, 2) := by decide +kernel
theorem d_M_keepOut_129 : decode b_M_keepOut 129 = .ok (.iconst 1, 1) := by decide +kernel
theorem d_M_keepOut_130 : decode b_M_keepOut 130 = .ok (.iadd, 1) := by decide +kernel
theorem d_M_keepOut_131 : decode b_M_keepOut 131 = .ok (.lload_n 3, 1) := by decide +kernel
theorem d_M_keepOut_132 : decode b_M_keepOut 132 = .ok (.lastore, 1) := by decide +kernel
theorem d_M_keepOut_133 : decode b_M_keepOut 133 = .ok (.aload_n 0, 1) := by decide +kernel
theorem d_M_keepOut_134 : decode b_M_keepOut 134 = .ok (.getfield 50, 3) := by decide +kernel
theorem d_M_keepOut_137 : decode b_M_keepOut 137 = .ok (.iload 13, 2) := by decide +kernel
theorem d_M_keepOut_139 : decode b_M_keepOut 139 = .ok (.iconst 2, 1) := by decide +kernel
theorem d_M_keepOut_140 : decode b_M_keepOut 140 = .ok (.iadd, 1) := by decide +kernel
theorem d_M_keepOut_141 : decode b_M_keepOut 141 = .ok (.lload 5, 2) := by decide +kernel
theorem d_M_keepOut_143 : decode b_M_keepOut 143 = .ok (.lastore, 1) := by decide +kernel
theorem d_M_keepOut_144 : decode b_M_keepOut 144 = .ok (.aload_n 0, 1) := by decide +kernel
theorem d_M_keepOut_145 : decode b_M_keepOut 145 = .ok (.getfield 50, 3) := by decide +kernel
theorem d_M_keepOut_148 : decode b_M_keepOut 148 = .ok (.iload 13, 2) := by decide +kernel
theorem d_M_keepOut_150 : decode b_M_keepOut 150 = .ok (.iconst 3, 1) := by decide +kernel
theorem d_M_keepOut_151 : decode b_M_keepOut 151 = .ok (.iadd, 1) := by decide +kernel
theorem d_M_keepOut_152 : decode b_M_keepOut 152 = .ok (.lload 7, 2) := by decide +kernel
theorem d_M_keepOut_154 : decode b_M_keepOut 154 = .ok (.lastore, 1) := by decide +kernel
theorem d_M_keepOut_155 : decode b_M_keepOut 155 = .ok (.aload_n 0, 1) := by decide +kernel
theorem d_M_keepOut_156 : decode b_M_keepOut 156 = .ok (.getfield 50, 3) := by decide +kernel
theorem d_M_keepOut_159 : decode b_M_keepOut 159 = .ok (.iload 13, 2) := by decide +kernel
theorem d_M_keepOut_161 : decode b_M_keepOut 161 = .ok (.iconst 4, 1) := by decide +kernel
theorem d_M_keepOut_162 : decode b_M_keepOut 162 = .ok (.iadd, 1) := by decide +kernel
theorem d_M_keepOut_163 : decode b_M_keepOut 163 = .ok (.iload 9, 2) := by decide +kernel
theorem d_M_keepOut_165 : decode b_M_keepOut 165 = .ok (.i2l, 1) := by decide +kernel
theorem d_M_keepOut_166 : decode b_M_keepOut 166 = .ok (.lastore, 1) := by decide +kernel
theorem d_M_keepOut_167 : decode b_M_keepOut 167 = .ok (.aload_n 0, 1) := by decide +kernel
theorem d_M_keepOut_168 : decode b_M_keepOut 168 = .ok (.getfield 50, 3) := by decide +kernel
theorem d_M_keepOut_171 : decode b_M_keepOut 171 = .ok (.iload 13, 2) := by decide +kernel
theorem d_M_keepOut_173 : decode b_M_keepOut 173 = .ok (.iconst 5, 1) := by decide +kernel
theorem d_M_keepOut_174 : decode b_M_keepOut 174 = .ok (.iadd, 1) := by decide +kernel
theorem d_M_keepOut_175 : decode b_M_keepOut 175 = .ok (.lload 10, 2) := by decide +kernel
theorem d_M_keepOut_177 : decode b_M_keepOut 177 = .ok (.lastore, 1) := by decide +kernel
theorem d_M_keepOut_178 : decode b_M_keepOut 178 = .ok (.aload_n 0, 1) := by decide +kernel
theorem d_M_keepOut_179 : decode b_M_keepOut 179 = .ok (.dup, 1) := by decide +kernel
theorem d_M_keepOut_180 : decode b_M_keepOut 180 = .ok (.getfield 269, 3) := by decide +kernel
theorem d_M_keepOut_183 : decode b_M_keepOut 183 = .ok (.iconst 1, 1) := by decide +kernel
theorem d_M_keepOut_184 : decode b_M_keepOut 184 = .ok (.iadd, 1) := by decide +kernel
theorem d_M_keepOut_185 : decode b_M_keepOut 185 = .ok (.putfield 269, 3) := by decide +kernel
theorem d_M_keepOut_188 : decode b_M_keepOut 188 = .ok (.iconst 1, 1) := by decide +kernel
theorem d_M_keepOut_189 : decode b_M_keepOut 189 = .ok (.ireturn, 1) := by decide +kernel
abbrev rm_M_keepOut : Room := { frames := 2, cells := 0, slots := 0, locals := 46 }
theorem ce_M_keepOut : gCe y_M_keepOut (.code y_M_keepOut b_M_keepOut 14 (some .boolean)) 14 6 false := gCe.code wd_1078 wd_57 wd_1076 (by decide) (by decide +kernel)
def f_M_keepOut (g0 : gG) (a0 : Nat) (p1 : Int64) (p2 : Int64) (p3 : Int64) (p4 : Int64) (p5 : Int32) (p6 : Int64) (w : gW) : gX Int32 := gbind (f_M_isWide g0 p1 w) fun v3 w => gjoin (fun K49 => gjoin (fun K48 => if v3 = 0 then (K48 w) else (gbind (f_M_isWide g0 p2 w) fun v48 w => if v48 = 0 then (K48 w) else (gbind (f_M_isWide g0 p3 w) fun v52 w => if v52 = 0 then (K48 w) else (gbind (f_M_isWide g0 p4 w) fun v56 w => if v56 = 0 then (K48 w) else (if p3 ≤ p1 then (K48 w) else (if p4 ≤ p2 then (K48 w) else (K49 1 w))))))) (fun (w : gW) => K49 0 w)) (fun (y4 : Int32) (w : gW) => gjoin (fun K85 => gjoin (fun K84 => if y4 = 0 then (K84 w) else (gjoin (fun K68 => if p5 = 0 then (K68 w) else (if p5 = 1 then (K68 w) else (K84 w))) (fun (w : gW) => gbind (f_M_within g0 p6 0 20000 w) fun v41 w => if v41 = 0 then (K84 w) else (K85 0 w)))) (fun (w : gW) => K85 1 w)) (fun (y5 : Int32) (w : gW) => (gp w a0 7 0 (.int y5)).bind fun w => (gfI w a0 7 0).bind fun v7 => gjoin (fun K104 => if v7 = 0 then ((gfI w a0 7 18).bind fun v11 => if v11 = 10 then (K104 w) else ((gfI w a0 7 18).bind fun v14 => (gfA w a0 7 19).bind fun v16 => (gsJ w v16 (6 * v14) p1).bind fun w => (gfA w a0 7 19).bind fun v19 => (gsJ w v19 ((6 * v14) + 1) p2).bind fun w => (gfA w a0 7 19).bind fun v22 => (gsJ w v22 ((6 * v14) + 2) p3).bind fun w => (gfA w a0 7 19).bind fun v25 => (gsJ w v25 ((6 * v14) + 3) p4).bind fun w => (gfA w a0 7 19).bind fun v28 => (gsJ w v28 ((6 * v14) + 4) (p5.toInt64)).bind fun w => (gfA w a0 7 19).bind fun v31 => (gsJ w v31 ((6 * v14) + 5) p6).bind fun w => (gfI w a0 7 18).bind fun v34 => (gp w a0 7 18 (.int (v34 + 1))).bind fun w => gguard ((1 : Int32) = 0 ∨ (1 : Int32) = 1) (some (.inr 1, w)))) else (K104 w)) (fun (w : gW) => gguard ((0 : Int32) = 0 ∨ (0 : Int32) = 1) (some (.inr 0, w)))))
set_option maxHeartbeats 4000000 in
set_option maxRecDepth 100000 in
theorem m_M_keepOut (l : Launch) (hst : l.stackTraces = false) (D : gD) (g0 : gG) (a0 : Nat) (p1 : Int64) (p2 : Int64) (p3 : Int64) (p4 : Int64) (p5 : Int32) (p6 : Int64) (w : gW) (r : (String ⊕ Int32) × gW) (h : f_M_keepOut g0 a0 p1 p2 p3 p4 p5 p6 w = some r) : gMet l y_M_keepOut (.code y_M_keepOut b_M_keepOut 14 (some .boolean)) rm_M_keepOut D g0 [.ref a0, .long p1, .long p2, .long p3, .long p4, .int p5, .long p6] w (goI r) := by
  refine gw_ofZ (by decide +kernel) (Nat.le_of_ble_eq_true rfl) ?_
  intro p e s m below meth c ls args A Q hx hb hml hown hlocks hin hnt hT hK hZ hA hret hexc hthr hI hl
  obtain ⟨H, hH⟩ : ∃ H, H = s.heap := ⟨_, rfl⟩
  rw [← hH] at hI ⊢
  obtain ⟨locs, hlocs⟩ : ∃ z : List Loc, z = [] := ⟨_, rfl⟩
  rw [← hlocs] at hI ⊢
  have hl : lv_has ls 14 [(0, .ref a0), (1, .long p1), (3, .long p2), (5, .long p3), (7, .long p4), (9, .int p5), (10, .long p6)] := hl
  unfold f_M_keepOut at h
  refine lv_lload_n hx hb d_M_keepOut_0 rfl (lv_at hl 1 rfl) ?_
  obtain ⟨u1, e2⟩ := gsome h
  refine gw_callI e2 h (gw_runS (As := [.long p1]) (rest := []) hx hb hml hown hT hK hZ hA hI (m_M_isWide l hst D g0 p1 w u1 e2) ce_M_isWide wd_1079 ⟨by decide, by decide⟩ rfl rfl hl.1 rfl (lv_room (Nat.le_of_ble_eq_true rfl)) d_M_keepOut_1 ⟨(show 0 + 0 ≤ 0 by omega), (show 0 + 0 ≤ 0 by omega)⟩) hI hA hexc (show 0 + 0 ≤ 0 by omega) (show 0 + 0 ≤ 0 by omega) (fun v3 w H locs h hI => ?_)
  obtain ⟨K49, eK49, h⟩ := gj h
  have hK49 : ∀ (y4 : Int32) (w : gW) (H : Heap) (locs : List Loc) (ls : Array Slot), K49 y4 w = some r → gI D s A w H locs → lv_has ls 14 [(0, .ref a0), (1, .long p1), (3, .long p2), (5, .long p3), (7, .long p4), (9, .int p5), (10, .long p6)] → W p l e rm_M_keepOut s m args below meth c H locs 0 0 Q (F0 m 49 ls [.int y4]) := by
    intro y4 w H locs ls h hI hl
    have h := gk2 eK49 h
    refine lv_istore (lv' := [(12, .int y4), (0, .ref a0), (1, .long p1), (3, .long p2), (5, .long p3), (7, .long p4), (9, .int p5), (10, .long p6)]) hx hb d_M_keepOut_49 hl (by decide) rfl (fun ls hl => ?_)
    refine lv_aload_n hx hb d_M_keepOut_51 rfl (lv_at hl 1 rfl) ?_
    refine lv_iload hx hb d_M_keepOut_52 (lv_at hl 0 rfl) ?_
    obtain ⟨K85, eK85, h⟩ := gj h
    have hK85 : ∀ (y5 : Int32) (w : gW) (H : Heap) (locs : List Loc) (ls : Array Slot), K85 y5 w = some r → gI D s A w H locs → lv_has ls 14 [(0, .ref a0), (1, .long p1), (3, .long p2), (5, .long p3), (7, .long p4), (9, .int p5), (10, .long p6)] → W p l e rm_M_keepOut s m args below meth c H locs 0 0 Q (F0 m 85 ls [.int y5, .ref a0]) := by
      intro y5 w H locs ls h hI hl
      have h := gk2 eK85 h
      obtain ⟨w, e6, h⟩ := gb h
      refine gw_put hx hb hT hown hK hI (ci := 7) rfl i_7 t_7 t_7_ok n_7 0 (by decide) wd_786 (fun _ h9 => h9) rfl (ty := .int) (by decide +kernel) rfl rfl e6 d_M_keepOut_85 (fun H locs hI => ?_)
      refine lv_aload_n hx hb d_M_keepOut_88 rfl (lv_at hl 0 rfl) ?_
      obtain ⟨v7, e8, h⟩ := gb h
      refine gw_getI hx hb hT hown hK hI (ci := 7) rfl i_7 0 (by decide) wd_786 (fun _ h9 => h9) e8 d_M_keepOut_89 ?_
      obtain ⟨K104, eK104, h⟩ := gj h
      have hK104 : ∀ (w : gW) (H : Heap) (locs : List Loc) (ls : Array Slot), K104 w = some r → gI D s A w H locs → lv_has ls 14 [] → W p l e rm_M_keepOut s m args below meth c H locs 0 0 Q (F0 m 104 ls []) := by
        intro w H locs ls h hI hl
        have h := gk1 eK104 h
        refine lv_iconst (v := 0) hx hb d_M_keepOut_104 (by decide) ?_
        obtain ⟨g9, h⟩ := gif h
        exact W.widen (show 0 ≤ 0 by omega) (show 0 ≤ 0 by omega) (hret g9 0 _ (Option.some.inj h).symm _ _ _ _ d_M_keepOut_105 hI)
      refine lv_if_ne (tgt := 104) hx hb d_M_keepOut_92 (by decide) (fun c10 => ?_) (fun c10 => ?_)
      · skip
        have h := gie c10 h
        exact hK104 w H locs ls h hI (lv_sub hl [] rfl)
      · skip
        have h := git c10 h
        refine lv_aload_n hx hb d_M_keepOut_95 rfl (lv_at hl 0 rfl) ?_
        obtain ⟨v11, e12, h⟩ := gb h
        refine gw_getI hx hb hT hown hK hI (ci := 7) rfl i_7 18 (by decide) wd_804 (fun _ h9 => h9) e12 d_M_keepOut_96 ?_
        refine lv_bipush (v := 10) hx hb d_M_keepOut_99 (by decide) ?_
        refine lv_icmp_ne (tgt := 106) hx hb d_M_keepOut_101 (by decide) (fun c13 => ?_) (fun c13 => ?_)
        · skip
          have h := gie c13 h
          refine lv_bipush (v := 6) hx hb d_M_keepOut_106 (by decide) ?_
          refine lv_aload_n hx hb d_M_keepOut_108 rfl (lv_at hl 0 rfl) ?_
          obtain ⟨v14, e15, h⟩ := gb h
          refine gw_getI hx hb hT hown hK hI (ci := 7) rfl i_7 18 (by decide) wd_804 (fun _ h9 => h9) e15 d_M_keepOut_109 ?_
          refine lv_imul hx hb d_M_keepOut_112 ?_
          refine lv_istore (lv' := [(13, .int (6 * v14)), (0, .ref a0), (1, .long p1), (3, .long p2), (5, .long p3), (7, .long p4), (9, .int p5), (10, .long p6)]) hx hb d_M_keepOut_113 hl (by decide) rfl (fun ls hl => ?_)
          refine lv_aload_n hx hb d_M_keepOut_115 rfl (lv_at hl 1 rfl) ?_
          obtain ⟨v16, e17, h⟩ := gb h
          refine gw_getA hx hb hT hown hK hI (ci := 7) rfl i_7 19 (by decide) wd_805 (fun _ h9 => h9) e17 d_M_keepOut_116 ?_
          refine lv_iload hx hb d_M_keepOut_119 (lv_at hl 0 rfl) ?_
          refine lv_lload_n hx hb d_M_keepOut_121 rfl (lv_at hl 2 rfl) ?_
          obtain ⟨w, e18, h⟩ := gb h
          refine gw_astJ hx hb hK hI e18 d_M_keepOut_122 (fun H locs hI => ?_)
          refine lv_aload_n hx hb d_M_keepOut_123 rfl (lv_at hl 1 rfl) ?_
          obtain ⟨v19, e20, h⟩ := gb h
          refine gw_getA hx hb hT hown hK hI (ci := 7) rfl i_7 19 (by decide) wd_805 (fun _ h9 => h9) e20 d_M_keepOut_124 ?_
          refine lv_iload hx hb d_M_keepOut_127 (lv_at hl 0 rfl) ?_
          refine lv_iconst (v := 1) hx hb d_M_keepOut_129 (by decide) ?_
          refine lv_iadd hx hb d_M_keepOut_130 ?_
          refine lv_lload_n hx hb d_M_keepOut_131 rfl (lv_at hl 3 rfl) ?_
          obtain ⟨w, e21, h⟩ := gb h
          refine gw_astJ hx hb hK hI e21 d_M_keepOut_132 (fun H locs hI => ?_)
          refine lv_aload_n hx hb d_M_keepOut_133 rfl (lv_at hl 1 rfl) ?_
          obtain ⟨v22, e23, h⟩ := gb h
          refine gw_getA hx hb hT hown hK hI (ci := 7) rfl i_7 19 (by decide) wd_805 (fun _ h9 => h9) e23 d_M_keepOut_134 ?_
          refine lv_iload hx hb d_M_keepOut_137 (lv_at hl 0 rfl) ?_
          refine lv_iconst (v := 2) hx hb d_M_keepOut_139 (by decide) ?_
          refine lv_iadd hx hb d_M_keepOut_140 ?_
          refine lv_lload hx hb d_M_keepOut_141 (lv_at hl 4 rfl) ?_
          obtain ⟨w, e24, h⟩ := gb h
          refine gw_astJ hx hb hK hI e24 d_M_keepOut_143 (fun H locs hI => ?_)
          refine lv_aload_n hx hb d_M_keepOut_144 rfl (lv_at hl 1 rfl) ?_
          obtain ⟨v25, e26, h⟩ := gb h
          refine gw_getA hx hb hT hown hK hI (ci := 7) rfl i_7 19 (by decide) wd_805 (fun _ h9 => h9) e26 d_M_keepOut_145 ?_
          refine lv_iload hx hb d_M_keepOut_148 (lv_at hl 0 rfl) ?_
          refine lv_iconst (v := 3) hx hb d_M_keepOut_150 (by decide) ?_
          refine lv_iadd hx hb d_M_keepOut_151 ?_
          refine lv_lload hx hb d_M_keepOut_152 (lv_at hl 5 rfl) ?_
          obtain ⟨w, e27, h⟩ := gb h
          refine gw_astJ hx hb hK hI e27 d_M_keepOut_154 (fun H locs hI => ?_)
          refine lv_aload_n hx hb d_M_keepOut_155 rfl (lv_at hl 1 rfl) ?_
          obtain ⟨v28, e29, h⟩ := gb h
          refine gw_getA hx hb hT hown hK hI (ci := 7) rfl i_7 19 (by decide) wd_805 (fun _ h9 => h9) e29 d_M_keepOut_156 ?_
          refine lv_iload hx hb d_M_keepOut_159 (lv_at hl 0 rfl) ?_
          refine lv_iconst (v := 4) hx hb d_M_keepOut_161 (by decide) ?_
          refine lv_iadd hx hb d_M_keepOut_162 ?_
          refine lv_iload hx hb d_M_keepOut_163 (lv_at hl 6 rfl) ?_
          refine lv_i2l (v := p5.toInt64) hx hb d_M_keepOut_165 rfl ?_
          obtain ⟨w, e30, h⟩ := gb h
          refine gw_astJ hx hb hK hI e30 d_M_keepOut_166 (fun H locs hI => ?_)
          refine lv_aload_n hx hb d_M_keepOut_167 rfl (lv_at hl 1 rfl) ?_
          obtain ⟨v31, e32, h⟩ := gb h
          refine gw_getA hx hb hT hown hK hI (ci := 7) rfl i_7 19 (by decide) wd_805 (fun _ h9 => h9) e32 d_M_keepOut_168 ?_
          refine lv_iload hx hb d_M_keepOut_171 (lv_at hl 0 rfl) ?_
          refine lv_iconst (v := 5) hx hb d_M_keepOut_173 (by decide) ?_
          refine lv_iadd hx hb d_M_keepOut_174 ?_
          refine lv_lload hx hb d_M_keepOut_175 (lv_at hl 7 rfl) ?_
          obtain ⟨w, e33, h⟩ := gb h
          refine gw_astJ hx hb hK hI e33 d_M_keepOut_177 (fun H locs hI => ?_)
          refine lv_aload_n hx hb d_M_keepOut_178 rfl (lv_at hl 1 rfl) ?_
          refine lv_dup hx hb d_M_keepOut_179 rfl ?_
          obtain ⟨v34, e35, h⟩ := gb h
          refine gw_getI hx hb hT hown hK hI (ci := 7) rfl i_7 18 (by decide) wd_804 (fun _ h9 => h9) e35 d_M_keepOut_180 ?_
          refine lv_iconst (v := 1) hx hb d_M_keepOut_183 (by decide) ?_
          refine lv_iadd hx hb d_M_keepOut_184 ?_
          obtain ⟨w, e36, h⟩ := gb h
          refine gw_put hx hb hT hown hK hI (ci := 7) rfl i_7 t_7 t_7_ok n_7 18 (by decide) wd_804 (fun _ h9 => h9) rfl (ty := .int) (by decide +kernel) rfl rfl e36 d_M_keepOut_185 (fun H locs hI => ?_)
          refine lv_iconst (v := 1) hx hb d_M_keepOut_188 (by decide) ?_
          obtain ⟨g37, h⟩ := gif h
          exact W.widen (show 0 ≤ 0 by omega) (show 0 ≤ 0 by omega) (hret g37 0 _ (Option.some.inj h).symm _ _ _ _ d_M_keepOut_189 hI)
        · skip
          have h := git c13 h
          exact hK104 w H locs ls h hI (lv_sub hl [] rfl)
    obtain ⟨K84, eK84, h⟩ := gj h
    have hK84 : ∀ (w : gW) (H : Heap) (locs : List Loc) (ls : Array Slot), K84 w = some r → gI D s A w H locs → lv_has ls 14 [(0, .ref a0), (1, .long p1), (3, .long p2), (5, .long p3), (7, .long p4), (9, .int p5), (10, .long p6)] → W p l e rm_M_keepOut s m args below meth c H locs 0 0 Q (F0 m 84 ls [.ref a0]) := by
      intro w H locs ls h hI hl
      have h := gk1 eK84 h
      refine lv_iconst (v := 1) hx hb d_M_keepOut_84 (by decide) ?_
      exact hK85 _ w H locs ls h hI (lv_sub hl [0, 1, 2, 3, 4, 5, 6] rfl)
    refine lv_if_eq (tgt := 84) hx hb d_M_keepOut_54 (by decide) (fun c38 => ?_) (fun c38 => ?_)
    · skip
      have h := git c38 h
      exact hK84 w H locs ls h hI (lv_sub hl [1, 2, 3, 4, 5, 6, 7] rfl)
    · skip
      have h := gie c38 h
      refine lv_iload hx hb d_M_keepOut_57 (lv_at hl 6 rfl) ?_
      obtain ⟨K68, eK68, h⟩ := gj h
      have hK68 : ∀ (w : gW) (H : Heap) (locs : List Loc) (ls : Array Slot), K68 w = some r → gI D s A w H locs → lv_has ls 14 [(0, .ref a0), (1, .long p1), (3, .long p2), (5, .long p3), (7, .long p4), (9, .int p5), (10, .long p6)] → W p l e rm_M_keepOut s m args below meth c H locs 0 0 Q (F0 m 68 ls [.ref a0]) := by
        intro w H locs ls h hI hl
        have h := gk1 eK68 h
        refine lv_lload hx hb d_M_keepOut_68 (lv_at hl 6 rfl) ?_
        refine lv_lconst (v := 0) hx hb d_M_keepOut_70 (by decide) ?_
        refine lv_ldc2 (v := 20000) hx hb hown (hT _ wd_1083 args) d_M_keepOut_71 ?_
        obtain ⟨u39, e40⟩ := gsome h
        refine gw_callI e40 h (gw_runS (As := [.long p6, .long 0, .long 20000]) (rest := [.ref a0]) hx hb hml hown hT hK hZ hA hI (m_M_within l hst D g0 p6 0 20000 w u39 e40) ce_M_within wd_885 ⟨by decide, by decide⟩ rfl rfl hl.1 rfl (lv_room (Nat.le_of_ble_eq_true rfl)) d_M_keepOut_74 ⟨(show 0 + 0 ≤ 0 by omega), (show 0 + 0 ≤ 0 by omega)⟩) hI hA hexc (show 0 + 0 ≤ 0 by omega) (show 0 + 0 ≤ 0 by omega) (fun v41 w H locs h hI => ?_)
        refine lv_if_eq (tgt := 84) hx hb d_M_keepOut_77 (by decide) (fun c42 => ?_) (fun c42 => ?_)
        · skip
          have h := git c42 h
          exact hK84 w H locs ls h hI (lv_sub hl [0, 1, 2, 3, 4, 5, 6] rfl)
        · skip
          have h := gie c42 h
          refine lv_iconst (v := 0) hx hb d_M_keepOut_80 (by decide) ?_
          refine lv_goto (tgt := 85) hx hb d_M_keepOut_81 (by decide) ?_
          exact hK85 _ w H locs ls h hI (lv_sub hl [0, 1, 2, 3, 4, 5, 6] rfl)
      refine lv_if_eq (tgt := 68) hx hb d_M_keepOut_59 (by decide) (fun c43 => ?_) (fun c43 => ?_)
      · skip
        have h := git c43 h
        exact hK68 w H locs ls h hI (lv_sub hl [1, 2, 3, 4, 5, 6, 7] rfl)
      · skip
        have h := gie c43 h
        refine lv_iload hx hb d_M_keepOut_62 (lv_at hl 6 rfl) ?_
        refine lv_iconst (v := 1) hx hb d_M_keepOut_64 (by decide) ?_
        refine lv_icmp_ne (tgt := 84) hx hb d_M_keepOut_65 (by decide) (fun c44 => ?_) (fun c44 => ?_)
        · skip
          have h := gie c44 h
          exact hK84 w H locs ls h hI (lv_sub hl [1, 2, 3, 4, 5, 6, 7] rfl)
        · skip
          have h := git c44 h
          exact hK68 w H locs ls h hI (lv_sub hl [1, 2, 3, 4, 5, 6, 7] rfl)
  obtain ⟨K48, eK48, h⟩ := gj h
  have hK48 : ∀ (w : gW) (H : Heap) (locs : List Loc) (ls : Array Slot), K48 w = some r → gI D s A w H locs → lv_has ls 14 [(0, .ref a0), (1, .long p1), (3, .long p2), (5, .long p3), (7, .long p4), (9, .int p5), (10, .long p6)] → W p l e rm_M_keepOut s m args below meth c H locs 0 0 Q (F0 m 48 ls []) := by
    intro w H locs ls h hI hl
    have h := gk1 eK48 h
    refine lv_iconst (v := 0) hx hb d_M_keepOut_48 (by decide) ?_
    exact hK49 _ w H locs ls h hI (lv_sub hl [0, 1, 2, 3, 4, 5, 6] rfl)
  refine lv_if_eq (tgt := 48) hx hb d_M_keepOut_4 (by decide) (fun c45 => ?_) (fun c45 => ?_)
  · skip
    have h := git c45 h
    exact hK48 w H locs ls h hI (lv_sub hl [0, 1, 2, 3, 4, 5, 6] rfl)
  · skip
    have h := gie c45 h
    refine lv_lload_n hx hb d_M_keepOut_7 rfl (lv_at hl 2 rfl) ?_
    obtain ⟨u46, e47⟩ := gsome h
    refine gw_callI e47 h (gw_runS (As := [.long p2]) (rest := []) hx hb hml hown hT hK hZ hA hI (m_M_isWide l hst D g0 p2 w u46 e47) ce_M_isWide wd_1079 ⟨by decide, by decide⟩ rfl rfl hl.1 rfl (lv_room (Nat.le_of_ble_eq_true rfl)) d_M_keepOut_8 ⟨(show 0 + 0 ≤ 0 by omega), (show 0 + 0 ≤ 0 by omega)⟩) hI hA hexc (show 0 + 0 ≤ 0 by omega) (show 0 + 0 ≤ 0 by omega) (fun v48 w H locs h hI => ?_)
    refine lv_if_eq (tgt := 48) hx hb d_M_keepOut_11 (by decide) (fun c49 => ?_) (fun c49 => ?_)
    · skip
      have h := git c49 h
      exact hK48 w H locs ls h hI (lv_sub hl [0, 1, 2, 3, 4, 5, 6] rfl)
    · skip
      have h := gie c49 h
      refine lv_lload hx hb d_M_keepOut_14 (lv_at hl 3 rfl) ?_
      obtain ⟨u50, e51⟩ := gsome h
      refine gw_callI e51 h (gw_runS (As := [.long p3]) (rest := []) hx hb hml hown hT hK hZ hA hI (m_M_isWide l hst D g0 p3 w u50 e51) ce_M_isWide wd_1079 ⟨by decide, by decide⟩ rfl rfl hl.1 rfl (lv_room (Nat.le_of_ble_eq_true rfl)) d_M_keepOut_16 ⟨(show 0 + 0 ≤ 0 by omega), (show 0 + 0 ≤ 0 by omega)⟩) hI hA hexc (show 0 + 0 ≤ 0 by omega) (show 0 + 0 ≤ 0 by omega) (fun v52 w H locs h hI => ?_)
      refine lv_if_eq (tgt := 48) hx hb d_M_keepOut_19 (by decide) (fun c53 => ?_) (fun c53 => ?_)
      · skip
        have h := git c53 h
        exact hK48 w H locs ls h hI (lv_sub hl [0, 1, 2, 3, 4, 5, 6] rfl)
      · skip
        have h := gie c53 h
        refine lv_lload hx hb d_M_keepOut_22 (lv_at hl 4 rfl) ?_
        obtain ⟨u54, e55⟩ := gsome h
        refine gw_callI e55 h (gw_runS (As := [.long p4]) (rest := []) hx hb hml hown hT hK hZ hA hI (m_M_isWide l hst D g0 p4 w u54 e55) ce_M_isWide wd_1079 ⟨by decide, by decide⟩ rfl rfl hl.1 rfl (lv_room (Nat.le_of_ble_eq_true rfl)) d_M_keepOut_24 ⟨(show 0 + 0 ≤ 0 by omega), (show 0 + 0 ≤ 0 by omega)⟩) hI hA hexc (show 0 + 0 ≤ 0 by omega) (show 0 + 0 ≤ 0 by omega) (fun v56 w H locs h hI => ?_)
        refine lv_if_eq (tgt := 48) hx hb d_M_keepOut_27 (by decide) (fun c57 => ?_) (fun c57 => ?_)
        · skip
          have h := git c57 h
          exact hK48 w H locs ls h hI (lv_sub hl [0, 1, 2, 3, 4, 5, 6] rfl)
        · skip
          have h := gie c57 h
          refine lv_lload_n hx hb d_M_keepOut_30 rfl (lv_at hl 1 rfl) ?_
          refine lv_lload hx hb d_M_keepOut_31 (lv_at hl 3 rfl) ?_
          refine W.lcmp hx hb d_M_keepOut_33 ?_
          refine lv_if_ge (tgt := 48) hx hb d_M_keepOut_34 (by decide) (fun c58 => ?_) (fun c58 => ?_)
          · have c58 := (lg_cmp_ge _ _).mp c58
            have h := git c58 h
            exact hK48 w H locs ls h hI (lv_sub hl [0, 1, 2, 3, 4, 5, 6] rfl)
          · have c58 := mt (lg_cmp_ge _ _).mpr c58
            have h := gie c58 h
            refine lv_lload_n hx hb d_M_keepOut_37 rfl (lv_at hl 2 rfl) ?_
            refine lv_lload hx hb d_M_keepOut_38 (lv_at hl 4 rfl) ?_
            refine W.lcmp hx hb d_M_keepOut_40 ?_
            refine lv_if_ge (tgt := 48) hx hb d_M_keepOut_41 (by decide) (fun c59 => ?_) (fun c59 => ?_)
            · have c59 := (lg_cmp_ge _ _).mp c59
              have h := git c59 h
              exact hK48 w H locs ls h hI (lv_sub hl [0, 1, 2, 3, 4, 5, 6] rfl)
            · have c59 := mt (lg_cmp_ge _ _).mpr c59
              have h := gie c59 h
              refine lv_iconst (v := 1) hx hb d_M_keepOut_44 (by decide) ?_
              refine lv_goto (tgt := 49) hx hb d_M_keepOut_45 (by decide) ?_
              exact hK49 _ w H locs ls h hI (lv_sub hl [0, 1, 2, 3, 4, 5, 6] rfl)

abbrev b_M_volume : ByteArray := prog_9_method_63_code
def y_M_volume : MethodName := ⟨"BodySolidsModel", "volume", "(I)J"⟩
theorem d_M_volume_0 : decode b_M_volume 0 = .ok (.aload_n 0, 1) := by decide +kernel
theorem d_M_volume_1 : decode b_M_volume 1 = .ok (.iload_n 1, 1) := by decide +kernel
theorem d_M_volume_2 : decode b_M_volume 2 = .ok (.iconst 5, 1) := by decide +kernel
theorem d_M_volume_3 : decode b_M_volume 3 = .ok (.invokevirtual 164, 3) := by decide +kernel
theorem d_M_volume_6 : decode b_M_volume 6 = .ok (.lstore_n 2, 1) := by decide +kernel
theorem d_M_volume_7 : decode b_M_volume 7 = .ok (.aload_n 0, 1) := by decide +kernel
theorem d_M_volume_8 : decode b_M_volume 8 = .ok (.iload_n 1, 1) := by decide +kernel
theorem d_M_volume_9 : decode b_M_volume 9 = .ok (.iconst 3, 1) := by decide +kernel
theorem d_M_volume_10 : decode b_M_volume 10 = .ok (.invokevirtual 164, 3) := by decide +kernel
theorem d_M_volume_13 : decode b_M_volume 13 = .ok (.lstore 4, 2) := by decide +kernel
theorem d_M_volume_15 : decode b_M_volume 15 = .ok (.aload_n 0, 1) := by decide +kernel
theorem d_M_volume_16 : decode b_M_volume 16 = .ok (.getfield 13, 3) := by decide +kernel
theorem d_M_volume_19 : decode b_M_volume 19 = .ok (.iload_n 1, 1) := by decide +kernel
theorem d_M_volume_20 : decode b_M_volume 20 = .ok (.iaload, 1) := by decide +kernel
theorem d_M_volume_21 : decode b_M_volume 21 = .ok (.tableswitch 83 0 3 #[31, 47, 83, 59], 31) := by decide +kernel
theorem d_M_volume_52 : decode b_M_volume 52 = .ok (.ldc2_w 283, 3) := by decide +kernel
theorem d_M_volume_55 : decode b_M_volume 55 = .ok (.lload 4, 2) := by decide +kernel
theorem d_M_volume_57 : decode b_M_volume 57 = .ok (.lmul, 1) := by decide +kernel
theorem d_M_volume_58 : decode b_M_volume 58 = .ok (.aload_n 0, 1) := by decide +kernel
theorem d_M_volume_59 : decode b_M_volume 59 = .ok (.iload_n 1, 1) := by decide +kernel
theorem d_M_volume_60 : decode b_M_volume 60 = .ok (.iconst 4, 1) := by decide +kernel
theorem d_M_volume_61 : decode b_M_volume 61 = .ok (.invokevirtual 164, 3) := by decide +kernel
theorem d_M_volume_64 : decode b_M_volume 64 = .ok (.lmul, 1) := by decide +kernel
theorem d_M_volume_65 : decode b_M_volume 65 = .ok (.lload_n 2, 1) := by decide +kernel
theorem d_M_volume_66 : decode b_M_volume 66 = .ok (.lmul, 1) := by decide +kernel
theorem d_M_volume_67 : decode b_M_volume 67 = .ok (.lreturn, 1) := by decide +kernel
theorem d_M_volume_68 : decode b_M_volume 68 = .ok (.ldc2_w 285, 3) := by decide +kernel
theorem d_M_volume_71 : decode b_M_volume 71 = .ok (.lload 4, 2) := by decide +kernel
theorem d_M_volume_73 : decode b_M_volume 73 = .ok (.lmul, 1) := by decide +kernel
theorem d_M_volume_74 : decode b_M_volume 74 = .ok (.lload 4, 2) := by decide +kernel
theorem d_M_volume_76 : decode b_M_volume 76 = .ok (.lmul, 1) := by decide +kernel
theorem d_M_volume_77 : decode b_M_volume 77 = .ok (.lload_n 2, 1) := by decide +kernel
theorem d_M_volume_78 : decode b_M_volume 78 = .ok (.lmul, 1) := by decide +kernel
theorem d_M_volume_79 : decode b_M_volume 79 = .ok (.lreturn, 1) := by decide +kernel
theorem d_M_volume_80 : decode b_M_volume 80 = .ok (.ldc2_w 285, 3) := by decide +kernel
theorem d_M_volume_83 : decode b_M_volume 83 = .ok (.lload 4, 2) := by decide +kernel
theorem d_M_volume_85 : decode b_M_volume 85 = .ok (.lmul, 1) := by decide +kernel
theorem d_M_volume_86 : decode b_M_volume 86 = .ok (.lload 4, 2) := by decide +kernel
theorem d_M_volume_88 : decode b_M_volume 88 = .ok (.lmul, 1) := by decide +kernel
theorem d_M_volume_89 : decode b_M_volume 89 = .ok (.lload_n 2, 1) := by decide +kernel
theorem d_M_volume_90 : decode b_M_volume 90 = .ok (.lconst 0, 1) := by decide +kernel
theorem d_M_volume_91 : decode b_M_volume 91 = .ok (.lcmp, 1) := by decide +kernel
theorem d_M_volume_92 : decode b_M_volume 92 = .ok (.ifCond .ge 9, 3) := by decide +kernel
theorem d_M_volume_95 : decode b_M_volume 95 = .ok (.lconst 0, 1) := by decide +kernel
theorem d_M_volume_96 : decode b_M_volume 96 = .ok (.lload_n 2, 1) := by decide +kernel
theorem d_M_volume_97 : decode b_M_volume 97 = .ok (.lsub, 1) := by decide +kernel
theorem d_M_volume_98 : decode b_M_volume 98 = .ok (.goto 4, 3) := by decide +kernel
theorem d_M_volume_101 : decode b_M_volume 101 = .ok (.lload_n 2, 1) := by decide +kernel
theorem d_M_volume_102 : decode b_M_volume 102 = .ok (.lmul, 1) := by decide +kernel
theorem d_M_volume_103 : decode b_M_volume 103 = .ok (.lreturn, 1) := by decide +kernel
theorem d_M_volume_104 : decode b_M_volume 104 = .ok (.lconst 0, 1) := by decide +kernel
theorem d_M_volume_105 : decode b_M_volume 105 = .ok (.lstore 6, 2) := by decide +kernel
theorem d_M_volume_107 : decode b_M_volume 107 = .ok (.bipush 8, 2) := by decide +kernel
theorem d_M_volume_109 : decode b_M_volume 109 = .ok (.iload_n 1, 1) := by decide +kernel
theorem d_M_volume_110 : decode b_M_volume 110 = .ok (.imul, 1) := by decide +kernel
theorem d_M_volume_111 : decode b_M_volume 111 = .ok (.istore 8, 2) := by decide +kernel
theorem d_M_volume_113 : decode b_M_volume 113 = .ok (.iload 8, 2) := by decide +kernel
theorem d_M_volume_115 : decode b_M_volume 115 = .ok (.bipush 8, 2) := by decide +kernel
theorem d_M_volume_117 : decode b_M_volume 117 = .ok (.iload_n 1, 1) := by decide +kernel
theorem d_M_volume_118 : decode b_M_volume 118 = .ok (.imul, 1) := by decide +kernel
theorem d_M_volume_119 : decode b_M_volume 119 = .ok (.aload_n 0, 1) := by decide +kernel
theorem d_M_volume_120 : decode b_M_volume 120 = .ok (.getfield 20, 3) := by decide +kernel
theorem d_M_volume_123 : decode b_M_volume 123 = .ok (.iload_n 1, 1) := by decide +kernel
theorem d_M_volume_124 : decode b_M_volume 124 = .ok (.iaload, 1) := by decide +kernel
theorem d_M_volume_125 : decode b_M_volume 125 = .ok (.iadd, 1) := by decide +kernel
theorem d_M_volume_126 : decode b_M_volume 126 = .ok (.if_icmp .ge 68, 3) := by decide +kernel
theorem d_M_volume_129 : decode b_M_volume 129 = .ok (.bipush 8, 2) := by decide +kernel
theorem d_M_volume_131 : decode b_M_volume 131 = .ok (.iload_n 1, 1) := by decide +kernel
theorem d_M_volume_132 : decode b_M_volume 132 = .ok (.imul, 1) := by decide +kernel
theorem d_M_volume_133 : decode b_M_volume 133 = .ok (.iload 8, 2) := by decide +kernel
theorem d_M_volume_135 : decode b_M_volume 135 = .ok (.bipush 8, 2) := by decide +kernel
theorem d_M_volume_137 : decode b_M_volume 137 = .ok (.iload_n 1, 1) := by decide +kernel
theorem d_M_volume_138 : decode b_M_volume 138 = .ok (.imul, 1) := by decide +kernel
theorem d_M_volume_139 : decode b_M_volume 139 = .ok (.isub, 1) := by decide +kernel
theorem d_M_volume_140 : decode b_M_volume 140 = .ok (.iconst 1, 1) := by decide +kernel
theorem d_M_volume_141 : decode b_M_volume 141 = .ok (.iadd, 1) := by decide +kernel
theorem d_M_volume_142 : decode b_M_volume 142 = .ok (.aload_n 0, 1) := by decide +kernel
theorem d_M_volume_143 : decode b_M_volume 143 = .ok (.getfield 20, 3) := by decide +kernel
theorem d_M_volume_146 : decode b_M_volume 146 = .ok (.iload_n 1, 1) := by decide +kernel
theorem d_M_volume_147 : decode b_M_volume 147 = .ok (.iaload, 1) := by decide +kernel
theorem d_M_volume_148 : decode b_M_volume 148 = .ok (.irem, 1) := by decide +kernel
theorem d_M_volume_149 : decode b_M_volume 149 = .ok (.iadd, 1) := by decide +kernel
theorem d_M_volume_150 : decode b_M_volume 150 = .ok (.istore 9, 2) := by decide +kernel
theorem d_M_volume_152 : decode b_M_volume 152 = .ok (.lload 6, 2) := by decide +kernel
theorem d_M_volume_154 : decode b_M_volume 154 = .ok (.aload_n 0, 1) := by decide +kernel
theorem d_M_volume_155 : decode b_M_volume 155 = .ok (.getfield 23, 3) := by decide +kernel
theorem d_M_volume_158 : decode b_M_volume 158 = .ok (.iload 8, 2) := by decide +kernel
theorem d_M_volume_160 : decode b_M_volume 160 = .ok (.laload, 1) := by decide +kernel
theorem d_M_volume_161 : decode b_M_volume 161 = .ok (.aload_n 0, 1) := by decide +kernel
theorem d_M_volume_162 : decode b_M_volume 162 = .ok (.getfield 26, 3) := by decide +kernel
theorem d_M_volume_165 : decode b_M_volume 165 = .ok (.iload 9, 2) := by decide +kernel
theorem d_M_volume_167 : decode b_M_volume 167 = .ok (.laload, 1) := by decide +kernel
theorem d_M_volume_168 : decode b_M_volume 168 = .ok (.lmul, 1) := by decide +kernel
theorem d_M_volume_169 : decode b_M_volume 169 = .ok (.aload_n 0, 1) := by decide +kernel
theorem d_M_volume_170 : decode b_M_volume 170 = .ok (.getfield 26, 3) := by decide +kernel
theorem d_M_volume_173 : decode b_M_volume 173 = .ok (.iload 8, 2) := by decide +kernel
theorem d_M_volume_175 : decode b_M_volume 175 = .ok (.laload, 1) := by decide +kernel
theorem d_M_volume_176 : decode b_M_volume 176 = .ok (.aload_n 0, 1) := by decide +kernel
theorem d_M_volume_177 : decode b_M_volume 177 = .ok (.getfield 23, 3) := by decide +kernel
theorem d_M_volume_180 : decode b_M_volume 180 = .ok (.iload 9, 2) := by decide +kernel
theorem d_M_volume_182 : decode b_M_volume 182 = .ok (.laload, 1) := by decide +kernel
theorem d_M_volume_183 : decode b_M_volume 183 = .ok (.lmul, 1) := by decide +kernel
theorem d_M_volume_184 : decode b_M_volume 184 = .ok (.lsub, 1) := by decide +kernel
theorem d_M_volume_185 : decode b_M_volume 185 = .ok (.ladd, 1) := by decide +kernel
theorem d_M_volume_186 : decode b_M_volume 186 = .ok (.lstore 6, 2) := by decide +kernel
theorem d_M_volume_188 : decode b_M_volume 188 = .ok (.iinc 8 1, 3) := by decide +kernel
theorem d_M_volume_191 : decode b_M_volume 191 = .ok (.goto (-78), 3) := by decide +kernel
theorem d_M_volume_194 : decode b_M_volume 194 = .ok (.ldc2_w 287, 3) := by decide +kernel
theorem d_M_volume_197 : decode b_M_volume 197 = .ok (.lload 6, 2) := by decide +kernel
theorem d_M_volume_199 : decode b_M_volume 199 = .ok (.lmul, 1) := by decide +kernel
theorem d_M_volume_200 : decode b_M_volume 200 = .ok (.lload_n 2, 1) := by decide +kernel
theorem d_M_volume_201 : decode b_M_volume 201 = .ok (.lmul, 1) := by decide +kernel
theorem d_M_volume_202 : decode b_M_volume 202 = .ok (.lreturn, 1) := by decide +kernel
abbrev rm_M_volume : Room := { frames := 1, cells := 0, slots := 0, locals := 22 }
theorem ce_M_volume : gCe y_M_volume (.code y_M_volume b_M_volume 10 (some .long)) 10 1 false := gCe.code wd_1117 wd_57 wd_1116 (by decide) (by decide +kernel)
def f_M_volume_L113 (g0 : gG) (c0 : Nat) (c1 : Int32) (c2 : Int64) (K194 : Int64 → gW → gX Int64) : Nat → Int64 → Int32 → gW → gX Int64
  | 0, _, _, _ => none
  | n + 1, z6, z8, w => (gfA w c0 7 6).bind fun v24 => (gaI w v24 c1).bind fun v26 => if ((8 * c1) + v26) ≤ z8 then (K194 z6 w) else ((gfA w c0 7 6).bind fun v29 => (gaI w v29 c1).bind fun v31 => gguard (¬ v31 = 0) ((gfA w c0 7 7).bind fun v34 => (gaJ w v34 z8).bind fun v36 => (gfA w c0 7 8).bind fun v38 => (gaJ w v38 ((8 * c1) + (((z8 - (8 * c1)) + 1) - ((z8 - (8 * c1)) + 1) / v31 * v31))).bind fun v40 => (gfA w c0 7 8).bind fun v42 => (gaJ w v42 z8).bind fun v44 => (gfA w c0 7 7).bind fun v46 => (gaJ w v46 ((8 * c1) + (((z8 - (8 * c1)) + 1) - ((z8 - (8 * c1)) + 1) / v31 * v31))).bind fun v48 => f_M_volume_L113 g0 c0 c1 c2 K194 n (z6 + ((v36 * v40) - (v44 * v48))) (z8 + 1) w))
def f_M_volume (g0 : gG) (a0 : Nat) (p1 : Int32) (w : gW) : gX Int64 := (gck w a0 7).bind fun _ => gbind (f_M_of g0 a0 p1 5 w) fun v5 w => (gck w a0 7).bind fun _ => gbind (f_M_of g0 a0 p1 3 w) fun v10 w => (gfA w a0 7 4).bind fun v11 => (gaI w v11 p1).bind fun v13 => if v13 = 0 then ((gck w a0 7).bind fun _ => gbind (f_M_of g0 a0 p1 4 w) fun v20 w => some (.inr (((226 * v10) * v20) * v5), w)) else (if v13 = 1 then (some (.inr (((710 * v10) * v10) * v5), w)) else (if v13 = 2 then (gjoin (fun K194 => f_M_volume_L113 g0 a0 p1 v5 K194 64 0 (8 * p1) w) (fun (x23 : Int64) (w : gW) => some (.inr ((113 * x23) * v5), w))) else (if v13 = 3 then (gjoin (fun K102 => if 0 ≤ v5 then (K102 v5 w) else (K102 (0 - v5) w)) (fun (y53 : Int64) (w : gW) => some (.inr (((710 * v10) * v10) * y53), w))) else (gjoin (fun K194 => f_M_volume_L113 g0 a0 p1 v5 K194 64 0 (8 * p1) w) (fun (x55 : Int64) (w : gW) => some (.inr ((113 * x55) * v5), w))))))
set_option maxHeartbeats 4000000 in
set_option maxRecDepth 100000 in
theorem m_M_volume (l : Launch) (hst : l.stackTraces = false) (D : gD) (g0 : gG) (a0 : Nat) (p1 : Int32) (w : gW) (r : (String ⊕ Int64) × gW) (h : f_M_volume g0 a0 p1 w = some r) : gMet l y_M_volume (.code y_M_volume b_M_volume 10 (some .long)) rm_M_volume D g0 [.ref a0, .int p1] w (goJ r) := by
  refine gw_ofJ (by decide +kernel) (Nat.le_of_ble_eq_true rfl) ?_
  intro p e s m below meth c ls args A Q hx hb hml hown hlocks hin hnt hT hK hZ hA hret hexc hthr hI hl
  obtain ⟨H, hH⟩ : ∃ H, H = s.heap := ⟨_, rfl⟩
  rw [← hH] at hI ⊢
  obtain ⟨locs, hlocs⟩ : ∃ z : List Loc, z = [] := ⟨_, rfl⟩
  rw [← hlocs] at hI ⊢
  have hl : lv_has ls 10 [(0, .ref a0), (1, .int p1)] := hl
  unfold f_M_volume at h
  refine lv_aload_n hx hb d_M_volume_0 rfl (lv_at hl 0 rfl) ?_
  refine lv_iload_n hx hb d_M_volume_1 rfl (lv_at hl 1 rfl) ?_
  refine lv_iconst (v := 5) hx hb d_M_volume_2 (by decide) ?_
  obtain ⟨q3, e4, h⟩ := gb h
  obtain ⟨u1, e2⟩ := gsome h
  refine gw_callJ e2 h (gw_runV (As := [.int p1, .int 5]) (rest := []) hx hb hml hown hT hK hZ hA hI (ci := 7) rfl e4 (m_M_of l hst D g0 a0 p1 5 w u1 e2) ce_M_of wd_971 wd_26 ⟨by decide, by decide⟩ rfl rfl hl.1 rfl (lv_room (Nat.le_of_ble_eq_true rfl)) d_M_volume_3 ⟨(show 0 + 0 ≤ 0 by omega), (show 0 + 0 ≤ 0 by omega)⟩) hI hA hexc (show 0 + 0 ≤ 0 by omega) (show 0 + 0 ≤ 0 by omega) (fun v5 w H locs h hI => ?_)
  refine lv_lstore_n (lv' := [(2, .long v5), (0, .ref a0), (1, .int p1)]) hx hb d_M_volume_6 rfl hl (by decide) rfl (fun ls hl => ?_)
  refine lv_aload_n hx hb d_M_volume_7 rfl (lv_at hl 1 rfl) ?_
  refine lv_iload_n hx hb d_M_volume_8 rfl (lv_at hl 2 rfl) ?_
  refine lv_iconst (v := 3) hx hb d_M_volume_9 (by decide) ?_
  obtain ⟨q8, e9, h⟩ := gb h
  obtain ⟨u6, e7⟩ := gsome h
  refine gw_callJ e7 h (gw_runV (As := [.int p1, .int 3]) (rest := []) hx hb hml hown hT hK hZ hA hI (ci := 7) rfl e9 (m_M_of l hst D g0 a0 p1 3 w u6 e7) ce_M_of wd_971 wd_26 ⟨by decide, by decide⟩ rfl rfl hl.1 rfl (lv_room (Nat.le_of_ble_eq_true rfl)) d_M_volume_10 ⟨(show 0 + 0 ≤ 0 by omega), (show 0 + 0 ≤ 0 by omega)⟩) hI hA hexc (show 0 + 0 ≤ 0 by omega) (show 0 + 0 ≤ 0 by omega) (fun v10 w H locs h hI => ?_)
  refine lv_lstore (lv' := [(4, .long v10), (2, .long v5), (0, .ref a0), (1, .int p1)]) hx hb d_M_volume_13 hl (by decide) rfl (fun ls hl => ?_)
  refine lv_aload_n hx hb d_M_volume_15 rfl (lv_at hl 2 rfl) ?_
  obtain ⟨v11, e12, h⟩ := gb h
  refine gw_getA hx hb hT hown hK hI (ci := 7) rfl i_7 4 (by decide) wd_790 (fun _ h9 => h9) e12 d_M_volume_16 ?_
  refine lv_iload_n hx hb d_M_volume_19 rfl (lv_at hl 3 rfl) ?_
  obtain ⟨v13, e14, h⟩ := gb h
  refine gw_aldI hx hb hK hI e14 d_M_volume_20 ?_
  rcases Decidable.em (v13 = 0) with c15 | c15
  · have h := git c15 h
    refine lv_tableIn (off := 31) (tgt := 52) hx hb d_M_volume_21 (by rw [c15]; decide) (by rw [c15]; decide) (by rw [c15]; decide) (by decide) ?_
    refine lv_ldc2 (v := 226) hx hb hown (hT _ wd_1118 args) d_M_volume_52 ?_
    refine lv_lload hx hb d_M_volume_55 (lv_at hl 0 rfl) ?_
    refine lv_lmul hx hb d_M_volume_57 ?_
    refine lv_aload_n hx hb d_M_volume_58 rfl (lv_at hl 2 rfl) ?_
    refine lv_iload_n hx hb d_M_volume_59 rfl (lv_at hl 3 rfl) ?_
    refine lv_iconst (v := 4) hx hb d_M_volume_60 (by decide) ?_
    obtain ⟨q18, e19, h⟩ := gb h
    obtain ⟨u16, e17⟩ := gsome h
    refine gw_callJ e17 h (gw_runV (As := [.int p1, .int 4]) (rest := [.long (226 * v10)]) hx hb hml hown hT hK hZ hA hI (ci := 7) rfl e19 (m_M_of l hst D g0 a0 p1 4 w u16 e17) ce_M_of wd_971 wd_26 ⟨by decide, by decide⟩ rfl rfl hl.1 rfl (lv_room (Nat.le_of_ble_eq_true rfl)) d_M_volume_61 ⟨(show 0 + 0 ≤ 0 by omega), (show 0 + 0 ≤ 0 by omega)⟩) hI hA hexc (show 0 + 0 ≤ 0 by omega) (show 0 + 0 ≤ 0 by omega) (fun v20 w H locs h hI => ?_)
    refine lv_lmul hx hb d_M_volume_64 ?_
    refine lv_lload_n hx hb d_M_volume_65 rfl (lv_at hl 1 rfl) ?_
    refine lv_lmul hx hb d_M_volume_66 ?_
    exact W.widen (show 0 ≤ 0 by omega) (show 0 ≤ 0 by omega) (hret _ _ (Option.some.inj h).symm _ _ _ _ d_M_volume_67 hI)
  have h := gie c15 h
  rcases Decidable.em (v13 = 1) with c21 | c21
  · have h := git c21 h
    refine lv_tableIn (off := 47) (tgt := 68) hx hb d_M_volume_21 (by rw [c21]; decide) (by rw [c21]; decide) (by rw [c21]; decide) (by decide) ?_
    refine lv_ldc2 (v := 710) hx hb hown (hT _ wd_1119 args) d_M_volume_68 ?_
    refine lv_lload hx hb d_M_volume_71 (lv_at hl 0 rfl) ?_
    refine lv_lmul hx hb d_M_volume_73 ?_
    refine lv_lload hx hb d_M_volume_74 (lv_at hl 0 rfl) ?_
    refine lv_lmul hx hb d_M_volume_76 ?_
    refine lv_lload_n hx hb d_M_volume_77 rfl (lv_at hl 1 rfl) ?_
    refine lv_lmul hx hb d_M_volume_78 ?_
    exact W.widen (show 0 ≤ 0 by omega) (show 0 ≤ 0 by omega) (hret _ _ (Option.some.inj h).symm _ _ _ _ d_M_volume_79 hI)
  have h := gie c21 h
  rcases Decidable.em (v13 = 2) with c22 | c22
  · have h := git c22 h
    refine lv_tableIn (off := 83) (tgt := 104) hx hb d_M_volume_21 (by rw [c22]; decide) (by rw [c22]; decide) (by rw [c22]; decide) (by decide) ?_
    refine lv_lconst (v := 0) hx hb d_M_volume_104 (by decide) ?_
    refine lv_lstore (lv' := [(6, .long 0), (4, .long v10), (2, .long v5), (0, .ref a0), (1, .int p1)]) hx hb d_M_volume_105 hl (by decide) rfl (fun ls hl => ?_)
    refine lv_bipush (v := 8) hx hb d_M_volume_107 (by decide) ?_
    refine lv_iload_n hx hb d_M_volume_109 rfl (lv_at hl 4 rfl) ?_
    refine lv_imul hx hb d_M_volume_110 ?_
    refine lv_istore (lv' := [(8, .int (8 * p1)), (6, .long 0), (4, .long v10), (2, .long v5), (0, .ref a0), (1, .int p1)]) hx hb d_M_volume_111 hl (by decide) rfl (fun ls hl => ?_)
    obtain ⟨K194, eK194, h⟩ := gj h
    have hK194 : ∀ (x23 : Int64) (w : gW) (H : Heap) (locs : List Loc) (ls : Array Slot), K194 x23 w = some r → gI D s A w H locs → lv_has ls 10 [(2, .long v5), (6, .long x23)] → W p l e rm_M_volume s m args below meth c H locs 0 0 Q (F0 m 194 ls []) := by
      intro x23 w H locs ls h hI hl
      have h := gk2 eK194 h
      refine lv_ldc2 (v := 113) hx hb hown (hT _ wd_1120 args) d_M_volume_194 ?_
      refine lv_lload hx hb d_M_volume_197 (lv_at hl 1 rfl) ?_
      refine lv_lmul hx hb d_M_volume_199 ?_
      refine lv_lload_n hx hb d_M_volume_200 rfl (lv_at hl 0 rfl) ?_
      refine lv_lmul hx hb d_M_volume_201 ?_
      exact W.widen (show 0 ≤ 0 by omega) (show 0 ≤ 0 by omega) (hret _ _ (Option.some.inj h).symm _ _ _ _ d_M_volume_202 hI)
    have hL113 : ∀ (n : Nat), ∀ (z24 : Int64) (z25 : Int32) (w : gW) (H : Heap) (locs : List Loc) (ls : Array Slot), f_M_volume_L113 g0 a0 p1 v5 K194 n z24 z25 w = some r → gI D s A w H locs → lv_has ls 10 [(0, .ref a0), (1, .int p1), (2, .long v5), (6, .long z24), (8, .int z25)] → W p l e rm_M_volume s m args below meth c H locs 0 0 Q (F0 m 113 ls []) := by
      intro n
      induction n with
      | zero => intro z24 z25 w H locs ls h hI hl; exact absurd h (by simp [f_M_volume_L113])
      | succ n ih =>
        intro z24 z25 w H locs ls h hI hl
        rw [f_M_volume_L113] at h
        refine lv_iload hx hb d_M_volume_113 (lv_at hl 4 rfl) ?_
        refine lv_bipush (v := 8) hx hb d_M_volume_115 (by decide) ?_
        refine lv_iload_n hx hb d_M_volume_117 rfl (lv_at hl 1 rfl) ?_
        refine lv_imul hx hb d_M_volume_118 ?_
        refine lv_aload_n hx hb d_M_volume_119 rfl (lv_at hl 0 rfl) ?_
        obtain ⟨v26, e27, h⟩ := gb h
        refine gw_getA hx hb hT hown hK hI (ci := 7) rfl i_7 6 (by decide) wd_792 (fun _ h9 => h9) e27 d_M_volume_120 ?_
        refine lv_iload_n hx hb d_M_volume_123 rfl (lv_at hl 1 rfl) ?_
        obtain ⟨v28, e29, h⟩ := gb h
        refine gw_aldI hx hb hK hI e29 d_M_volume_124 ?_
        refine lv_iadd hx hb d_M_volume_125 ?_
        refine lv_icmp_ge (tgt := 194) hx hb d_M_volume_126 (by decide) (fun c30 => ?_) (fun c30 => ?_)
        · skip
          have h := git c30 h
          exact hK194 _ w H locs ls h hI (lv_sub hl [2, 3] rfl)
        · skip
          have h := gie c30 h
          refine lv_bipush (v := 8) hx hb d_M_volume_129 (by decide) ?_
          refine lv_iload_n hx hb d_M_volume_131 rfl (lv_at hl 1 rfl) ?_
          refine lv_imul hx hb d_M_volume_132 ?_
          refine lv_iload hx hb d_M_volume_133 (lv_at hl 4 rfl) ?_
          refine lv_bipush (v := 8) hx hb d_M_volume_135 (by decide) ?_
          refine lv_iload_n hx hb d_M_volume_137 rfl (lv_at hl 1 rfl) ?_
          refine lv_imul hx hb d_M_volume_138 ?_
          refine lv_isub hx hb d_M_volume_139 ?_
          refine lv_iconst (v := 1) hx hb d_M_volume_140 (by decide) ?_
          refine lv_iadd hx hb d_M_volume_141 ?_
          refine lv_aload_n hx hb d_M_volume_142 rfl (lv_at hl 0 rfl) ?_
          obtain ⟨v31, e32, h⟩ := gb h
          refine gw_getA hx hb hT hown hK hI (ci := 7) rfl i_7 6 (by decide) wd_792 (fun _ h9 => h9) e32 d_M_volume_143 ?_
          refine lv_iload_n hx hb d_M_volume_146 rfl (lv_at hl 1 rfl) ?_
          obtain ⟨v33, e34, h⟩ := gb h
          refine gw_aldI hx hb hK hI e34 d_M_volume_147 ?_
          obtain ⟨g35, h⟩ := gif h
          refine lv_irem hx hb d_M_volume_148 g35 ?_
          refine lv_iadd hx hb d_M_volume_149 ?_
          refine lv_istore (lv' := [(9, .int ((8 * p1) + (((z25 - (8 * p1)) + 1) - ((z25 - (8 * p1)) + 1) / v33 * v33))), (0, .ref a0), (1, .int p1), (2, .long v5), (6, .long z24), (8, .int z25)]) hx hb d_M_volume_150 hl (by decide) rfl (fun ls hl => ?_)
          refine lv_lload hx hb d_M_volume_152 (lv_at hl 4 rfl) ?_
          refine lv_aload_n hx hb d_M_volume_154 rfl (lv_at hl 1 rfl) ?_
          obtain ⟨v36, e37, h⟩ := gb h
          refine gw_getA hx hb hT hown hK hI (ci := 7) rfl i_7 7 (by decide) wd_793 (fun _ h9 => h9) e37 d_M_volume_155 ?_
          refine lv_iload hx hb d_M_volume_158 (lv_at hl 5 rfl) ?_
          obtain ⟨v38, e39, h⟩ := gb h
          refine gw_aldJ hx hb hK hI e39 d_M_volume_160 ?_
          refine lv_aload_n hx hb d_M_volume_161 rfl (lv_at hl 1 rfl) ?_
          obtain ⟨v40, e41, h⟩ := gb h
          refine gw_getA hx hb hT hown hK hI (ci := 7) rfl i_7 8 (by decide) wd_794 (fun _ h9 => h9) e41 d_M_volume_162 ?_
          refine lv_iload hx hb d_M_volume_165 (lv_at hl 0 rfl) ?_
          obtain ⟨v42, e43, h⟩ := gb h
          refine gw_aldJ hx hb hK hI e43 d_M_volume_167 ?_
          refine lv_lmul hx hb d_M_volume_168 ?_
          refine lv_aload_n hx hb d_M_volume_169 rfl (lv_at hl 1 rfl) ?_
          obtain ⟨v44, e45, h⟩ := gb h
          refine gw_getA hx hb hT hown hK hI (ci := 7) rfl i_7 8 (by decide) wd_794 (fun _ h9 => h9) e45 d_M_volume_170 ?_
          refine lv_iload hx hb d_M_volume_173 (lv_at hl 5 rfl) ?_
          obtain ⟨v46, e47, h⟩ := gb h
          refine gw_aldJ hx hb hK hI e47 d_M_volume_175 ?_
          refine lv_aload_n hx hb d_M_volume_176 rfl (lv_at hl 1 rfl) ?_
          obtain ⟨v48, e49, h⟩ := gb h
          refine gw_getA hx hb hT hown hK hI (ci := 7) rfl i_7 7 (by decide) wd_793 (fun _ h9 => h9) e49 d_M_volume_177 ?_
          refine lv_iload hx hb d_M_volume_180 (lv_at hl 0 rfl) ?_
          obtain ⟨v50, e51, h⟩ := gb h
          refine gw_aldJ hx hb hK hI e51 d_M_volume_182 ?_
          refine lv_lmul hx hb d_M_volume_183 ?_
          refine lv_lsub hx hb d_M_volume_184 ?_
          refine lv_ladd hx hb d_M_volume_185 ?_
          refine lv_lstore (lv' := [(6, .long (z24 + ((v38 * v42) - (v46 * v50)))), (9, .int ((8 * p1) + (((z25 - (8 * p1)) + 1) - ((z25 - (8 * p1)) + 1) / v33 * v33))), (0, .ref a0), (1, .int p1), (2, .long v5), (8, .int z25)]) hx hb d_M_volume_186 hl (by decide) rfl (fun ls hl => ?_)
          refine lv_iinc (v := z25 + 1) (lv' := [(8, .int (z25 + 1)), (6, .long (z24 + ((v38 * v42) - (v46 * v50)))), (9, .int ((8 * p1) + (((z25 - (8 * p1)) + 1) - ((z25 - (8 * p1)) + 1) / v33 * v33))), (0, .ref a0), (1, .int p1), (2, .long v5)]) hx hb d_M_volume_188 hl (k := 5) rfl rfl (by decide) rfl (fun ls hl => ?_)
          refine lv_goto (tgt := 113) hx hb d_M_volume_191 (by decide) ?_
          exact ih _ _ w H locs ls h hI (lv_sub hl [3, 4, 5, 1, 0] rfl)
    exact hL113 64 _ _ w H locs ls h hI (lv_sub hl [4, 5, 3, 1, 0] rfl)
  have h := gie c22 h
  rcases Decidable.em (v13 = 3) with c52 | c52
  · have h := git c52 h
    refine lv_tableIn (off := 59) (tgt := 80) hx hb d_M_volume_21 (by rw [c52]; decide) (by rw [c52]; decide) (by rw [c52]; decide) (by decide) ?_
    refine lv_ldc2 (v := 710) hx hb hown (hT _ wd_1119 args) d_M_volume_80 ?_
    refine lv_lload hx hb d_M_volume_83 (lv_at hl 0 rfl) ?_
    refine lv_lmul hx hb d_M_volume_85 ?_
    refine lv_lload hx hb d_M_volume_86 (lv_at hl 0 rfl) ?_
    refine lv_lmul hx hb d_M_volume_88 ?_
    refine lv_lload_n hx hb d_M_volume_89 rfl (lv_at hl 1 rfl) ?_
    refine lv_lconst (v := 0) hx hb d_M_volume_90 (by decide) ?_
    refine W.lcmp hx hb d_M_volume_91 ?_
    obtain ⟨K102, eK102, h⟩ := gj h
    have hK102 : ∀ (y53 : Int64) (w : gW) (H : Heap) (locs : List Loc) (ls : Array Slot), K102 y53 w = some r → gI D s A w H locs → lv_has ls 10 [] → W p l e rm_M_volume s m args below meth c H locs 0 0 Q (F0 m 102 ls [.long y53, .long ((710 * v10) * v10)]) := by
      intro y53 w H locs ls h hI hl
      have h := gk2 eK102 h
      refine lv_lmul hx hb d_M_volume_102 ?_
      exact W.widen (show 0 ≤ 0 by omega) (show 0 ≤ 0 by omega) (hret _ _ (Option.some.inj h).symm _ _ _ _ d_M_volume_103 hI)
    refine lv_if_ge (tgt := 101) hx hb d_M_volume_92 (by decide) (fun c54 => ?_) (fun c54 => ?_)
    · have c54 := (lg_cmp_ge _ _).mp c54
      have h := git c54 h
      refine lv_lload_n hx hb d_M_volume_101 rfl (lv_at hl 1 rfl) ?_
      exact hK102 _ w H locs ls h hI (lv_sub hl [] rfl)
    · have c54 := mt (lg_cmp_ge _ _).mpr c54
      have h := gie c54 h
      refine lv_lconst (v := 0) hx hb d_M_volume_95 (by decide) ?_
      refine lv_lload_n hx hb d_M_volume_96 rfl (lv_at hl 1 rfl) ?_
      refine lv_lsub hx hb d_M_volume_97 ?_
      refine lv_goto (tgt := 102) hx hb d_M_volume_98 (by decide) ?_
      exact hK102 _ w H locs ls h hI (lv_sub hl [] rfl)
  have h := gie c52 h
  refine lv_tableOut (tgt := 104) hx hb d_M_volume_21 (by have q0 := lv_neT c15 (show (0 : Int32).toInt = 0 by decide); have q1 := lv_neT c21 (show (1 : Int32).toInt = 1 by decide); have q2 := lv_neT c22 (show (2 : Int32).toInt = 2 by decide); have q3 := lv_neT c52 (show (3 : Int32).toInt = 3 by decide); omega) (by decide) ?_
  refine lv_lconst (v := 0) hx hb d_M_volume_104 (by decide) ?_
  refine lv_lstore (lv' := [(6, .long 0), (4, .long v10), (2, .long v5), (0, .ref a0), (1, .int p1)]) hx hb d_M_volume_105 hl (by decide) rfl (fun ls hl => ?_)
  refine lv_bipush (v := 8) hx hb d_M_volume_107 (by decide) ?_
  refine lv_iload_n hx hb d_M_volume_109 rfl (lv_at hl 4 rfl) ?_
  refine lv_imul hx hb d_M_volume_110 ?_
  refine lv_istore (lv' := [(8, .int (8 * p1)), (6, .long 0), (4, .long v10), (2, .long v5), (0, .ref a0), (1, .int p1)]) hx hb d_M_volume_111 hl (by decide) rfl (fun ls hl => ?_)
  obtain ⟨K194, eK194, h⟩ := gj h
  have hK194 : ∀ (x55 : Int64) (w : gW) (H : Heap) (locs : List Loc) (ls : Array Slot), K194 x55 w = some r → gI D s A w H locs → lv_has ls 10 [(2, .long v5), (6, .long x55)] → W p l e rm_M_volume s m args below meth c H locs 0 0 Q (F0 m 194 ls []) := by
    intro x55 w H locs ls h hI hl
    have h := gk2 eK194 h
    refine lv_ldc2 (v := 113) hx hb hown (hT _ wd_1120 args) d_M_volume_194 ?_
    refine lv_lload hx hb d_M_volume_197 (lv_at hl 1 rfl) ?_
    refine lv_lmul hx hb d_M_volume_199 ?_
    refine lv_lload_n hx hb d_M_volume_200 rfl (lv_at hl 0 rfl) ?_
    refine lv_lmul hx hb d_M_volume_201 ?_
    exact W.widen (show 0 ≤ 0 by omega) (show 0 ≤ 0 by omega) (hret _ _ (Option.some.inj h).symm _ _ _ _ d_M_volume_202 hI)
  have hL113 : ∀ (n : Nat), ∀ (z56 : Int64) (z57 : Int32) (w : gW) (H : Heap) (locs : List Loc) (ls : Array Slot), f_M_volume_L113 g0 a0 p1 v5 K194 n z56 z57 w = some r → gI D s A w H locs → lv_has ls 10 [(0, .ref a0), (1, .int p1), (2, .long v5), (6, .long z56), (8, .int z57)] → W p l e rm_M_volume s m args below meth c H locs 0 0 Q (F0 m 113 ls []) := by
    intro n
    induction n with
    | zero => intro z56 z57 w H locs ls h hI hl; exact absurd h (by simp [f_M_volume_L113])
    | succ n ih =>
      intro z56 z57 w H locs ls h hI hl
      rw [f_M_volume_L113] at h
      refine lv_iload hx hb d_M_volume_113 (lv_at hl 4 rfl) ?_
      refine lv_bipush (v := 8) hx hb d_M_volume_115 (by decide) ?_
      refine lv_iload_n hx hb d_M_volume_117 rfl (lv_at hl 1 rfl) ?_
      refine lv_imul hx hb d_M_volume_118 ?_
      refine lv_aload_n hx hb d_M_volume_119 rfl (lv_at hl 0 rfl) ?_
      obtain ⟨v58, e59, h⟩ := gb h
      refine gw_getA hx hb hT hown hK hI (ci := 7) rfl i_7 6 (by decide) wd_792 (fun _ h9 => h9) e59 d_M_volume_120 ?_
      refine lv_iload_n hx hb d_M_volume_123 rfl (lv_at hl 1 rfl) ?_
      obtain ⟨v60, e61, h⟩ := gb h
      refine gw_aldI hx hb hK hI e61 d_M_volume_124 ?_
      refine lv_iadd hx hb d_M_volume_125 ?_
      refine lv_icmp_ge (tgt := 194) hx hb d_M_volume_126 (by decide) (fun c62 => ?_) (fun c62 => ?_)
      · skip
        have h := git c62 h
        exact hK194 _ w H locs ls h hI (lv_sub hl [2, 3] rfl)
      · skip
        have h := gie c62 h
        refine lv_bipush (v := 8) hx hb d_M_volume_129 (by decide) ?_
        refine lv_iload_n hx hb d_M_volume_131 rfl (lv_at hl 1 rfl) ?_
        refine lv_imul hx hb d_M_volume_132 ?_
        refine lv_iload hx hb d_M_volume_133 (lv_at hl 4 rfl) ?_
        refine lv_bipush (v := 8) hx hb d_M_volume_135 (by decide) ?_
        refine lv_iload_n hx hb d_M_volume_137 rfl (lv_at hl 1 rfl) ?_
        refine lv_imul hx hb d_M_volume_138 ?_
        refine lv_isub hx hb d_M_volume_139 ?_
        refine lv_iconst (v := 1) hx hb d_M_volume_140 (by decide) ?_
        refine lv_iadd hx hb d_M_volume_141 ?_
        refine lv_aload_n hx hb d_M_volume_142 rfl (lv_at hl 0 rfl) ?_
        obtain ⟨v63, e64, h⟩ := gb h
        refine gw_getA hx hb hT hown hK hI (ci := 7) rfl i_7 6 (by decide) wd_792 (fun _ h9 => h9) e64 d_M_volume_143 ?_
        refine lv_iload_n hx hb d_M_volume_146 rfl (lv_at hl 1 rfl) ?_
        obtain ⟨v65, e66, h⟩ := gb h
        refine gw_aldI hx hb hK hI e66 d_M_volume_147 ?_
        obtain ⟨g67, h⟩ := gif h
        refine lv_irem hx hb d_M_volume_148 g67 ?_
        refine lv_iadd hx hb d_M_volume_149 ?_
        refine lv_istore (lv' := [(9, .int ((8 * p1) + (((z57 - (8 * p1)) + 1) - ((z57 - (8 * p1)) + 1) / v65 * v65))), (0, .ref a0), (1, .int p1), (2, .long v5), (6, .long z56), (8, .int z57)]) hx hb d_M_volume_150 hl (by decide) rfl (fun ls hl => ?_)
        refine lv_lload hx hb d_M_volume_152 (lv_at hl 4 rfl) ?_
        refine lv_aload_n hx hb d_M_volume_154 rfl (lv_at hl 1 rfl) ?_
        obtain ⟨v68, e69, h⟩ := gb h
        refine gw_getA hx hb hT hown hK hI (ci := 7) rfl i_7 7 (by decide) wd_793 (fun _ h9 => h9) e69 d_M_volume_155 ?_
        refine lv_iload hx hb d_M_volume_158 (lv_at hl 5 rfl) ?_
        obtain ⟨v70, e71, h⟩ := gb h
        refine gw_aldJ hx hb hK hI e71 d_M_volume_160 ?_
        refine lv_aload_n hx hb d_M_volume_161 rfl (lv_at hl 1 rfl) ?_
        obtain ⟨v72, e73, h⟩ := gb h
        refine gw_getA hx hb hT hown hK hI (ci := 7) rfl i_7 8 (by decide) wd_794 (fun _ h9 => h9) e73 d_M_volume_162 ?_
        refine lv_iload hx hb d_M_volume_165 (lv_at hl 0 rfl) ?_
        obtain ⟨v74, e75, h⟩ := gb h
        refine gw_aldJ hx hb hK hI e75 d_M_volume_167 ?_
        refine lv_lmul hx hb d_M_volume_168 ?_
        refine lv_aload_n hx hb d_M_volume_169 rfl (lv_at hl 1 rfl) ?_
        obtain ⟨v76, e77, h⟩ := gb h
        refine gw_getA hx hb hT hown hK hI (ci := 7) rfl i_7 8 (by decide) wd_794 (fun _ h9 => h9) e77 d_M_volume_170 ?_
        refine lv_iload hx hb d_M_volume_173 (lv_at hl 5 rfl) ?_
        obtain ⟨v78, e79, h⟩ := gb h
        refine gw_aldJ hx hb hK hI e79 d_M_volume_175 ?_
        refine lv_aload_n hx hb d_M_volume_176 rfl (lv_at hl 1 rfl) ?_
        obtain ⟨v80, e81, h⟩ := gb h
        refine gw_getA hx hb hT hown hK hI (ci := 7) rfl i_7 7 (by decide) wd_793 (fun _ h9 => h9) e81 d_M_volume_177 ?_
        refine lv_iload hx hb d_M_volume_180 (lv_at hl 0 rfl) ?_
        obtain ⟨v82, e83, h⟩ := gb h
        refine gw_aldJ hx hb hK hI e83 d_M_volume_182 ?_
        refine lv_lmul hx hb d_M_volume_183 ?_
        refine lv_lsub hx hb d_M_volume_184 ?_
        refine lv_ladd hx hb d_M_volume_185 ?_
        refine lv_lstore (lv' := [(6, .long (z56 + ((v70 * v74) - (v78 * v82)))), (9, .int ((8 * p1) + (((z57 - (8 * p1)) + 1) - ((z57 - (8 * p1)) + 1) / v65 * v65))), (0, .ref a0), (1, .int p1), (2, .long v5), (8, .int z57)]) hx hb d_M_volume_186 hl (by decide) rfl (fun ls hl => ?_)
        refine lv_iinc (v := z57 + 1) (lv' := [(8, .int (z57 + 1)), (6, .long (z56 + ((v70 * v74) - (v78 * v82)))), (9, .int ((8 * p1) + (((z57 - (8 * p1)) + 1) - ((z57 - (8 * p1)) + 1) / v65 * v65))), (0, .ref a0), (1, .int p1), (2, .long v5)]) hx hb d_M_volume_188 hl (k := 5) rfl rfl (by decide) rfl (fun ls hl => ?_)
        refine lv_goto (tgt := 113) hx hb d_M_volume_191 (by decide) ?_
        exact ih _ _ w H locs ls h hI (lv_sub hl [3, 4, 5, 1, 0] rfl)
  exact hL113 64 _ _ w H locs ls h hI (lv_sub hl [4, 5, 3, 1, 0] rfl)

abbrev b_M_mass : ByteArray := prog_9_method_64_code
def y_M_mass : MethodName := ⟨"BodySolidsModel", "mass", "(I)J"⟩
theorem d_M_mass_0 : decode b_M_mass 0 = .ok (.aload_n 0, 1) := by decide +kernel
theorem d_M_mass_1 : decode b_M_mass 1 = .ok (.aload_n 0, 1) := by decide +kernel
theorem d_M_mass_2 : decode b_M_mass 2 = .ok (.iload_n 1, 1) := by decide +kernel
theorem d_M_mass_3 : decode b_M_mass 3 = .ok (.invokevirtual 109, 3) := by decide +kernel
theorem d_M_mass_6 : decode b_M_mass 6 = .ok (.ifCond .eq 7, 3) := by decide +kernel
theorem d_M_mass_9 : decode b_M_mass 9 = .ok (.iconst 0, 1) := by decide +kernel
theorem d_M_mass_10 : decode b_M_mass 10 = .ok (.goto 4, 3) := by decide +kernel
theorem d_M_mass_13 : decode b_M_mass 13 = .ok (.iconst 1, 1) := by decide +kernel
theorem d_M_mass_14 : decode b_M_mass 14 = .ok (.putfield 80, 3) := by decide +kernel
theorem d_M_mass_17 : decode b_M_mass 17 = .ok (.lconst 0, 1) := by decide +kernel
theorem d_M_mass_18 : decode b_M_mass 18 = .ok (.lstore_n 2, 1) := by decide +kernel
theorem d_M_mass_19 : decode b_M_mass 19 = .ok (.iconst 0, 1) := by decide +kernel
theorem d_M_mass_20 : decode b_M_mass 20 = .ok (.istore 4, 2) := by decide +kernel
theorem d_M_mass_22 : decode b_M_mass 22 = .ok (.aload_n 0, 1) := by decide +kernel
theorem d_M_mass_23 : decode b_M_mass 23 = .ok (.getfield 80, 3) := by decide +kernel
theorem d_M_mass_26 : decode b_M_mass 26 = .ok (.ifCond .ne 34, 3) := by decide +kernel
theorem d_M_mass_29 : decode b_M_mass 29 = .ok (.iload 4, 2) := by decide +kernel
theorem d_M_mass_31 : decode b_M_mass 31 = .ok (.aload_n 0, 1) := by decide +kernel
theorem d_M_mass_32 : decode b_M_mass 32 = .ok (.getfield 7, 3) := by decide +kernel
theorem d_M_mass_35 : decode b_M_mass 35 = .ok (.iload_n 1, 1) := by decide +kernel
theorem d_M_mass_36 : decode b_M_mass 36 = .ok (.iaload, 1) := by decide +kernel
theorem d_M_mass_37 : decode b_M_mass 37 = .ok (.if_icmp .ge 23, 3) := by decide +kernel
theorem d_M_mass_40 : decode b_M_mass 40 = .ok (.lload_n 2, 1) := by decide +kernel
theorem d_M_mass_41 : decode b_M_mass 41 = .ok (.aload_n 0, 1) := by decide +kernel
theorem d_M_mass_42 : decode b_M_mass 42 = .ok (.bipush 12, 2) := by decide +kernel
theorem d_M_mass_44 : decode b_M_mass 44 = .ok (.iload_n 1, 1) := by decide +kernel
theorem d_M_mass_45 : decode b_M_mass 45 = .ok (.imul, 1) := by decide +kernel
theorem d_M_mass_46 : decode b_M_mass 46 = .ok (.iload 4, 2) := by decide +kernel
theorem d_M_mass_48 : decode b_M_mass 48 = .ok (.iadd, 1) := by decide +kernel
theorem d_M_mass_49 : decode b_M_mass 49 = .ok (.invokevirtual 289, 3) := by decide +kernel
theorem d_M_mass_52 : decode b_M_mass 52 = .ok (.ladd, 1) := by decide +kernel
theorem d_M_mass_53 : decode b_M_mass 53 = .ok (.lstore_n 2, 1) := by decide +kernel
theorem d_M_mass_54 : decode b_M_mass 54 = .ok (.iinc 4 1, 3) := by decide +kernel
theorem d_M_mass_57 : decode b_M_mass 57 = .ok (.goto (-35), 3) := by decide +kernel
theorem d_M_mass_60 : decode b_M_mass 60 = .ok (.lload_n 2, 1) := by decide +kernel
theorem d_M_mass_61 : decode b_M_mass 61 = .ok (.lreturn, 1) := by decide +kernel
abbrev rm_M_mass : Room := { frames := 2, cells := 0, slots := 0, locals := 51 }
theorem ce_M_mass : gCe y_M_mass (.code y_M_mass b_M_mass 5 (some .long)) 5 1 false := gCe.code wd_1113 wd_57 wd_1111 (by decide) (by decide +kernel)
def f_M_mass_L22 (g0 : gG) (c0 : Nat) (c1 : Int32) (K60 : Int64 → gW → gX Int64) : Nat → Int64 → Int32 → gW → gX Int64
  | 0, _, _, _ => none
  | n + 1, z2, z4, w => (gfI w c0 7 0).bind fun v9 => if v9 = 0 then ((gfA w c0 7 3).bind fun v12 => (gaI w v12 c1).bind fun v14 => if v14 ≤ z4 then (K60 z2 w) else ((gck w c0 7).bind fun _ => gbind (f_M_volume g0 c0 ((12 * c1) + z4) w) fun v21 w => f_M_mass_L22 g0 c0 c1 K60 n (z2 + v21) (z4 + 1) w)) else (K60 z2 w)
def f_M_mass (g0 : gG) (a0 : Nat) (p1 : Int32) (w : gW) : gX Int64 := (gck w a0 7).bind fun _ => gbind (f_M_isBody g0 a0 p1 w) fun v5 w => gjoin (fun K14 => if v5 = 0 then (K14 1 w) else (K14 0 w)) (fun (y6 : Int32) (w : gW) => (gp w a0 7 0 (.int y6)).bind fun w => gjoin (fun K60 => f_M_mass_L22 g0 a0 p1 K60 64 0 0 w) (fun (x8 : Int64) (w : gW) => some (.inr x8, w)))
set_option maxHeartbeats 4000000 in
set_option maxRecDepth 100000 in
theorem m_M_mass (l : Launch) (hst : l.stackTraces = false) (D : gD) (g0 : gG) (a0 : Nat) (p1 : Int32) (w : gW) (r : (String ⊕ Int64) × gW) (h : f_M_mass g0 a0 p1 w = some r) : gMet l y_M_mass (.code y_M_mass b_M_mass 5 (some .long)) rm_M_mass D g0 [.ref a0, .int p1] w (goJ r) := by
  refine gw_ofJ (by decide +kernel) (Nat.le_of_ble_eq_true rfl) ?_
  intro p e s m below meth c ls args A Q hx hb hml hown hlocks hin hnt hT hK hZ hA hret hexc hthr hI hl
  obtain ⟨H, hH⟩ : ∃ H, H = s.heap := ⟨_, rfl⟩
  rw [← hH] at hI ⊢
  obtain ⟨locs, hlocs⟩ : ∃ z : List Loc, z = [] := ⟨_, rfl⟩
  rw [← hlocs] at hI ⊢
  have hl : lv_has ls 5 [(0, .ref a0), (1, .int p1)] := hl
  unfold f_M_mass at h
  refine lv_aload_n hx hb d_M_mass_0 rfl (lv_at hl 0 rfl) ?_
  refine lv_aload_n hx hb d_M_mass_1 rfl (lv_at hl 0 rfl) ?_
  refine lv_iload_n hx hb d_M_mass_2 rfl (lv_at hl 1 rfl) ?_
  obtain ⟨q3, e4, h⟩ := gb h
  obtain ⟨u1, e2⟩ := gsome h
  refine gw_callI e2 h (gw_runV (As := [.int p1]) (rest := [.ref a0]) hx hb hml hown hT hK hZ hA hI (ci := 7) rfl e4 (m_M_isBody l hst D g0 a0 p1 w u1 e2) ce_M_isBody wd_894 wd_17 ⟨by decide, by decide⟩ rfl rfl hl.1 rfl (lv_room (Nat.le_of_ble_eq_true rfl)) d_M_mass_3 ⟨(show 0 + 0 ≤ 0 by omega), (show 0 + 0 ≤ 0 by omega)⟩) hI hA hexc (show 0 + 0 ≤ 0 by omega) (show 0 + 0 ≤ 0 by omega) (fun v5 w H locs h hI => ?_)
  obtain ⟨K14, eK14, h⟩ := gj h
  have hK14 : ∀ (y6 : Int32) (w : gW) (H : Heap) (locs : List Loc) (ls : Array Slot), K14 y6 w = some r → gI D s A w H locs → lv_has ls 5 [(0, .ref a0), (1, .int p1)] → W p l e rm_M_mass s m args below meth c H locs 0 0 Q (F0 m 14 ls [.int y6, .ref a0]) := by
    intro y6 w H locs ls h hI hl
    have h := gk2 eK14 h
    obtain ⟨w, e7, h⟩ := gb h
    refine gw_put hx hb hT hown hK hI (ci := 7) rfl i_7 t_7 t_7_ok n_7 0 (by decide) wd_786 (fun _ h9 => h9) rfl (ty := .int) (by decide +kernel) rfl rfl e7 d_M_mass_14 (fun H locs hI => ?_)
    refine lv_lconst (v := 0) hx hb d_M_mass_17 (by decide) ?_
    refine lv_lstore_n (lv' := [(2, .long 0), (0, .ref a0), (1, .int p1)]) hx hb d_M_mass_18 rfl hl (by decide) rfl (fun ls hl => ?_)
    refine lv_iconst (v := 0) hx hb d_M_mass_19 (by decide) ?_
    refine lv_istore (lv' := [(4, .int 0), (2, .long 0), (0, .ref a0), (1, .int p1)]) hx hb d_M_mass_20 hl (by decide) rfl (fun ls hl => ?_)
    obtain ⟨K60, eK60, h⟩ := gj h
    have hK60 : ∀ (x8 : Int64) (w : gW) (H : Heap) (locs : List Loc) (ls : Array Slot), K60 x8 w = some r → gI D s A w H locs → lv_has ls 5 [(2, .long x8)] → W p l e rm_M_mass s m args below meth c H locs 0 0 Q (F0 m 60 ls []) := by
      intro x8 w H locs ls h hI hl
      have h := gk2 eK60 h
      refine lv_lload_n hx hb d_M_mass_60 rfl (lv_at hl 0 rfl) ?_
      exact W.widen (show 0 ≤ 0 by omega) (show 0 ≤ 0 by omega) (hret _ _ (Option.some.inj h).symm _ _ _ _ d_M_mass_61 hI)
    have hL22 : ∀ (n : Nat), ∀ (z9 : Int64) (z10 : Int32) (w : gW) (H : Heap) (locs : List Loc) (ls : Array Slot), f_M_mass_L22 g0 a0 p1 K60 n z9 z10 w = some r → gI D s A w H locs → lv_has ls 5 [(0, .ref a0), (1, .int p1), (2, .long z9), (4, .int z10)] → W p l e rm_M_mass s m args below meth c H locs 0 0 Q (F0 m 22 ls []) := by
      intro n
      induction n with
      | zero => intro z9 z10 w H locs ls h hI hl; exact absurd h (by simp [f_M_mass_L22])
      | succ n ih =>
        intro z9 z10 w H locs ls h hI hl
        rw [f_M_mass_L22] at h
        refine lv_aload_n hx hb d_M_mass_22 rfl (lv_at hl 0 rfl) ?_
        obtain ⟨v11, e12, h⟩ := gb h
        refine gw_getI hx hb hT hown hK hI (ci := 7) rfl i_7 0 (by decide) wd_786 (fun _ h9 => h9) e12 d_M_mass_23 ?_
        refine lv_if_ne (tgt := 60) hx hb d_M_mass_26 (by decide) (fun c13 => ?_) (fun c13 => ?_)
        · skip
          have h := gie c13 h
          exact hK60 _ w H locs ls h hI (lv_sub hl [2] rfl)
        · skip
          have h := git c13 h
          refine lv_iload hx hb d_M_mass_29 (lv_at hl 3 rfl) ?_
          refine lv_aload_n hx hb d_M_mass_31 rfl (lv_at hl 0 rfl) ?_
          obtain ⟨v14, e15, h⟩ := gb h
          refine gw_getA hx hb hT hown hK hI (ci := 7) rfl i_7 3 (by decide) wd_789 (fun _ h9 => h9) e15 d_M_mass_32 ?_
          refine lv_iload_n hx hb d_M_mass_35 rfl (lv_at hl 1 rfl) ?_
          obtain ⟨v16, e17, h⟩ := gb h
          refine gw_aldI hx hb hK hI e17 d_M_mass_36 ?_
          refine lv_icmp_ge (tgt := 60) hx hb d_M_mass_37 (by decide) (fun c18 => ?_) (fun c18 => ?_)
          · skip
            have h := git c18 h
            exact hK60 _ w H locs ls h hI (lv_sub hl [2] rfl)
          · skip
            have h := gie c18 h
            refine lv_lload_n hx hb d_M_mass_40 rfl (lv_at hl 2 rfl) ?_
            refine lv_aload_n hx hb d_M_mass_41 rfl (lv_at hl 0 rfl) ?_
            refine lv_bipush (v := 12) hx hb d_M_mass_42 (by decide) ?_
            refine lv_iload_n hx hb d_M_mass_44 rfl (lv_at hl 1 rfl) ?_
            refine lv_imul hx hb d_M_mass_45 ?_
            refine lv_iload hx hb d_M_mass_46 (lv_at hl 3 rfl) ?_
            refine lv_iadd hx hb d_M_mass_48 ?_
            obtain ⟨q21, e22, h⟩ := gb h
            obtain ⟨u19, e20⟩ := gsome h
            refine gw_callJ e20 h (gw_runV (As := [.int ((12 * p1) + z10)]) (rest := [.long z9]) hx hb hml hown hT hK hZ hA hI (ci := 7) rfl e22 (m_M_volume l hst D g0 a0 ((12 * p1) + z10) w u19 e20) ce_M_volume wd_1114 wd_47 ⟨by decide, by decide⟩ rfl rfl hl.1 rfl (lv_room (Nat.le_of_ble_eq_true rfl)) d_M_mass_49 ⟨(show 0 + 0 ≤ 0 by omega), (show 0 + 0 ≤ 0 by omega)⟩) hI hA hexc (show 0 + 0 ≤ 0 by omega) (show 0 + 0 ≤ 0 by omega) (fun v23 w H locs h hI => ?_)
            refine lv_ladd hx hb d_M_mass_52 ?_
            refine lv_lstore_n (lv' := [(2, .long (z9 + v23)), (0, .ref a0), (1, .int p1), (4, .int z10)]) hx hb d_M_mass_53 rfl hl (by decide) rfl (fun ls hl => ?_)
            refine lv_iinc (v := z10 + 1) (lv' := [(4, .int (z10 + 1)), (2, .long (z9 + v23)), (0, .ref a0), (1, .int p1)]) hx hb d_M_mass_54 hl (k := 3) rfl rfl (by decide) rfl (fun ls hl => ?_)
            refine lv_goto (tgt := 22) hx hb d_M_mass_57 (by decide) ?_
            exact ih _ _ w H locs ls h hI (lv_sub hl [2, 3, 1, 0] rfl)
    exact hL22 64 _ _ w H locs ls h hI (lv_sub hl [2, 3, 1, 0] rfl)
  refine lv_if_eq (tgt := 13) hx hb d_M_mass_6 (by decide) (fun c24 => ?_) (fun c24 => ?_)
  · skip
    have h := git c24 h
    refine lv_iconst (v := 1) hx hb d_M_mass_13 (by decide) ?_
    exact hK14 _ w H locs ls h hI (lv_sub hl [0, 1] rfl)
  · skip
    have h := gie c24 h
    refine lv_iconst (v := 0) hx hb d_M_mass_9 (by decide) ?_
    refine lv_goto (tgt := 14) hx hb d_M_mass_10 (by decide) ?_
    exact hK14 _ w H locs ls h hI (lv_sub hl [0, 1] rfl)

abbrev b_M_set : ByteArray := prog_9_method_23_code
def y_M_set : MethodName := ⟨"BodySolidsModel", "set", "(IJJII)V"⟩
theorem d_M_set_0 : decode b_M_set 0 = .ok (.aload_n 0, 1) := by decide +kernel
theorem d_M_set_1 : decode b_M_set 1 = .ok (.getfield 38, 3) := by decide +kernel
theorem d_M_set_4 : decode b_M_set 4 = .ok (.iload_n 1, 1) := by decide +kernel
theorem d_M_set_5 : decode b_M_set 5 = .ok (.lload_n 2, 1) := by decide +kernel
theorem d_M_set_6 : decode b_M_set 6 = .ok (.lastore, 1) := by decide +kernel
theorem d_M_set_7 : decode b_M_set 7 = .ok (.aload_n 0, 1) := by decide +kernel
theorem d_M_set_8 : decode b_M_set 8 = .ok (.getfield 41, 3) := by decide +kernel
theorem d_M_set_11 : decode b_M_set 11 = .ok (.iload_n 1, 1) := by decide +kernel
theorem d_M_set_12 : decode b_M_set 12 = .ok (.lload 4, 2) := by decide +kernel
theorem d_M_set_14 : decode b_M_set 14 = .ok (.lastore, 1) := by decide +kernel
theorem d_M_set_15 : decode b_M_set 15 = .ok (.aload_n 0, 1) := by decide +kernel
theorem d_M_set_16 : decode b_M_set 16 = .ok (.getfield 44, 3) := by decide +kernel
theorem d_M_set_19 : decode b_M_set 19 = .ok (.iload_n 1, 1) := by decide +kernel
theorem d_M_set_20 : decode b_M_set 20 = .ok (.iload 6, 2) := by decide +kernel
theorem d_M_set_22 : decode b_M_set 22 = .ok (.iastore, 1) := by decide +kernel
theorem d_M_set_23 : decode b_M_set 23 = .ok (.aload_n 0, 1) := by decide +kernel
theorem d_M_set_24 : decode b_M_set 24 = .ok (.getfield 47, 3) := by decide +kernel
theorem d_M_set_27 : decode b_M_set 27 = .ok (.iload_n 1, 1) := by decide +kernel
theorem d_M_set_28 : decode b_M_set 28 = .ok (.iload 7, 2) := by decide +kernel
theorem d_M_set_30 : decode b_M_set 30 = .ok (.iastore, 1) := by decide +kernel
theorem d_M_set_31 : decode b_M_set 31 = .ok (.return_, 1) := by decide +kernel
abbrev rm_M_set : Room := { frames := 0, cells := 0, slots := 0, locals := 0 }
theorem ce_M_set : gCe y_M_set (.code y_M_set b_M_set 8 none) 8 5 false := gCe.code wd_950 wd_57 wd_949 (by decide) (by decide +kernel)
def f_M_set (g0 : gG) (a0 : Nat) (p1 : Int32) (p2 : Int64) (p3 : Int64) (p4 : Int32) (p5 : Int32) (w : gW) : gX Unit := (gfA w a0 7 14).bind fun v1 => (gsJ w v1 p1 p2).bind fun w => (gfA w a0 7 15).bind fun v4 => (gsJ w v4 p1 p3).bind fun w => (gfA w a0 7 16).bind fun v7 => (gsI w v7 p1 p4).bind fun w => (gfA w a0 7 17).bind fun v10 => (gsI w v10 p1 p5).bind fun w => some (.inr (), w)
set_option maxHeartbeats 4000000 in
set_option maxRecDepth 100000 in
theorem m_M_set (l : Launch) (hst : l.stackTraces = false) (D : gD) (g0 : gG) (a0 : Nat) (p1 : Int32) (p2 : Int64) (p3 : Int64) (p4 : Int32) (p5 : Int32) (w : gW) (r : (String ⊕ Unit) × gW) (h : f_M_set g0 a0 p1 p2 p3 p4 p5 w = some r) : gMet l y_M_set (.code y_M_set b_M_set 8 none) rm_M_set D g0 [.ref a0, .int p1, .long p2, .long p3, .int p4, .int p5] w (goV r) := by
  refine gw_ofV (by decide +kernel) (Nat.le_of_ble_eq_true rfl) ?_
  intro p e s m below meth c ls args A Q hx hb hml hown hlocks hin hnt hT hK hZ hA hret hexc hthr hI hl
  obtain ⟨H, hH⟩ : ∃ H, H = s.heap := ⟨_, rfl⟩
  rw [← hH] at hI ⊢
  obtain ⟨locs, hlocs⟩ : ∃ z : List Loc, z = [] := ⟨_, rfl⟩
  rw [← hlocs] at hI ⊢
  have hl : lv_has ls 8 [(0, .ref a0), (1, .int p1), (2, .long p2), (4, .long p3), (6, .int p4), (7, .int p5)] := hl
  unfold f_M_set at h
  refine lv_aload_n hx hb d_M_set_0 rfl (lv_at hl 0 rfl) ?_
  obtain ⟨v1, e2, h⟩ := gb h
  refine gw_getA hx hb hT hown hK hI (ci := 7) rfl i_7 14 (by decide) wd_800 (fun _ h9 => h9) e2 d_M_set_1 ?_
  refine lv_iload_n hx hb d_M_set_4 rfl (lv_at hl 1 rfl) ?_
  refine lv_lload_n hx hb d_M_set_5 rfl (lv_at hl 2 rfl) ?_
  obtain ⟨w, e3, h⟩ := gb h
  refine gw_astJ hx hb hK hI e3 d_M_set_6 (fun H locs hI => ?_)
  refine lv_aload_n hx hb d_M_set_7 rfl (lv_at hl 0 rfl) ?_
  obtain ⟨v4, e5, h⟩ := gb h
  refine gw_getA hx hb hT hown hK hI (ci := 7) rfl i_7 15 (by decide) wd_801 (fun _ h9 => h9) e5 d_M_set_8 ?_
  refine lv_iload_n hx hb d_M_set_11 rfl (lv_at hl 1 rfl) ?_
  refine lv_lload hx hb d_M_set_12 (lv_at hl 3 rfl) ?_
  obtain ⟨w, e6, h⟩ := gb h
  refine gw_astJ hx hb hK hI e6 d_M_set_14 (fun H locs hI => ?_)
  refine lv_aload_n hx hb d_M_set_15 rfl (lv_at hl 0 rfl) ?_
  obtain ⟨v7, e8, h⟩ := gb h
  refine gw_getA hx hb hT hown hK hI (ci := 7) rfl i_7 16 (by decide) wd_802 (fun _ h9 => h9) e8 d_M_set_16 ?_
  refine lv_iload_n hx hb d_M_set_19 rfl (lv_at hl 1 rfl) ?_
  refine lv_iload hx hb d_M_set_20 (lv_at hl 4 rfl) ?_
  obtain ⟨w, e9, h⟩ := gb h
  refine gw_astI hx hb hK hI e9 d_M_set_22 (fun H locs hI => ?_)
  refine lv_aload_n hx hb d_M_set_23 rfl (lv_at hl 0 rfl) ?_
  obtain ⟨v10, e11, h⟩ := gb h
  refine gw_getA hx hb hT hown hK hI (ci := 7) rfl i_7 17 (by decide) wd_803 (fun _ h9 => h9) e11 d_M_set_24 ?_
  refine lv_iload_n hx hb d_M_set_27 rfl (lv_at hl 1 rfl) ?_
  refine lv_iload hx hb d_M_set_28 (lv_at hl 5 rfl) ?_
  obtain ⟨w, e12, h⟩ := gb h
  refine gw_astI hx hb hK hI e12 d_M_set_30 (fun H locs hI => ?_)
  exact W.widen (show 0 ≤ 0 by omega) (show 0 ≤ 0 by omega) (hret _ _ (Option.some.inj h).symm _ _ _ _ d_M_set_31 hI)

abbrev b_M_move : ByteArray := prog_9_method_25_code
def y_M_move : MethodName := ⟨"BodySolidsModel", "move", "(IJJII)Z"⟩
theorem d_M_move_0 : decode b_M_move 0 = .ok (.aload_n 0, 1) := by decide +kernel
theorem d_M_move_1 : decode b_M_move 1 = .ok (.aload_n 0, 1) := by decide +kernel
theorem d_M_move_2 : decode b_M_move 2 = .ok (.iload_n 1, 1) := by decide +kernel
theorem d_M_move_3 : decode b_M_move 3 = .ok (.invokevirtual 150, 3) := by decide +kernel
theorem d_M_move_6 : decode b_M_move 6 = .ok (.ifCond .ne 7, 3) := by decide +kernel
theorem d_M_move_9 : decode b_M_move 9 = .ok (.iconst 1, 1) := by decide +kernel
theorem d_M_move_10 : decode b_M_move 10 = .ok (.goto 21, 3) := by decide +kernel
theorem d_M_move_13 : decode b_M_move 13 = .ok (.lload_n 2, 1) := by decide +kernel
theorem d_M_move_14 : decode b_M_move 14 = .ok (.lload 4, 2) := by decide +kernel
theorem d_M_move_16 : decode b_M_move 16 = .ok (.iload 6, 2) := by decide +kernel
theorem d_M_move_18 : decode b_M_move 18 = .ok (.iload 7, 2) := by decide +kernel
theorem d_M_move_20 : decode b_M_move 20 = .ok (.invokestatic 142, 3) := by decide +kernel
theorem d_M_move_23 : decode b_M_move 23 = .ok (.ifCond .eq 7, 3) := by decide +kernel
theorem d_M_move_26 : decode b_M_move 26 = .ok (.iconst 0, 1) := by decide +kernel
theorem d_M_move_27 : decode b_M_move 27 = .ok (.goto 4, 3) := by decide +kernel
theorem d_M_move_30 : decode b_M_move 30 = .ok (.iconst 2, 1) := by decide +kernel
theorem d_M_move_31 : decode b_M_move 31 = .ok (.putfield 80, 3) := by decide +kernel
theorem d_M_move_34 : decode b_M_move 34 = .ok (.aload_n 0, 1) := by decide +kernel
theorem d_M_move_35 : decode b_M_move 35 = .ok (.getfield 80, 3) := by decide +kernel
theorem d_M_move_38 : decode b_M_move 38 = .ok (.ifCond .eq 5, 3) := by decide +kernel
theorem d_M_move_41 : decode b_M_move 41 = .ok (.iconst 0, 1) := by decide +kernel
theorem d_M_move_42 : decode b_M_move 42 = .ok (.ireturn, 1) := by decide +kernel
theorem d_M_move_43 : decode b_M_move 43 = .ok (.aload_n 0, 1) := by decide +kernel
theorem d_M_move_44 : decode b_M_move 44 = .ok (.getfield 38, 3) := by decide +kernel
theorem d_M_move_47 : decode b_M_move 47 = .ok (.iload_n 1, 1) := by decide +kernel
theorem d_M_move_48 : decode b_M_move 48 = .ok (.laload, 1) := by decide +kernel
theorem d_M_move_49 : decode b_M_move 49 = .ok (.lload_n 2, 1) := by decide +kernel
theorem d_M_move_50 : decode b_M_move 50 = .ok (.lcmp, 1) := by decide +kernel
theorem d_M_move_51 : decode b_M_move 51 = .ok (.ifCond .ne 37, 3) := by decide +kernel
theorem d_M_move_54 : decode b_M_move 54 = .ok (.aload_n 0, 1) := by decide +kernel
theorem d_M_move_55 : decode b_M_move 55 = .ok (.getfield 41, 3) := by decide +kernel
theorem d_M_move_58 : decode b_M_move 58 = .ok (.iload_n 1, 1) := by decide +kernel
theorem d_M_move_59 : decode b_M_move 59 = .ok (.laload, 1) := by decide +kernel
theorem d_M_move_60 : decode b_M_move 60 = .ok (.lload 4, 2) := by decide +kernel
theorem d_M_move_62 : decode b_M_move 62 = .ok (.lcmp, 1) := by decide +kernel
theorem d_M_move_63 : decode b_M_move 63 = .ok (.ifCond .ne 25, 3) := by decide +kernel
theorem d_M_move_66 : decode b_M_move 66 = .ok (.aload_n 0, 1) := by decide +kernel
theorem d_M_move_67 : decode b_M_move 67 = .ok (.getfield 44, 3) := by decide +kernel
theorem d_M_move_70 : decode b_M_move 70 = .ok (.iload_n 1, 1) := by decide +kernel
theorem d_M_move_71 : decode b_M_move 71 = .ok (.iaload, 1) := by decide +kernel
theorem d_M_move_72 : decode b_M_move 72 = .ok (.iload 6, 2) := by decide +kernel
theorem d_M_move_74 : decode b_M_move 74 = .ok (.if_icmp .ne 14, 3) := by decide +kernel
theorem d_M_move_77 : decode b_M_move 77 = .ok (.aload_n 0, 1) := by decide +kernel
theorem d_M_move_78 : decode b_M_move 78 = .ok (.getfield 47, 3) := by decide +kernel
theorem d_M_move_81 : decode b_M_move 81 = .ok (.iload_n 1, 1) := by decide +kernel
theorem d_M_move_82 : decode b_M_move 82 = .ok (.iaload, 1) := by decide +kernel
theorem d_M_move_83 : decode b_M_move 83 = .ok (.iload 7, 2) := by decide +kernel
theorem d_M_move_85 : decode b_M_move 85 = .ok (.if_icmp .eq 7, 3) := by decide +kernel
theorem d_M_move_88 : decode b_M_move 88 = .ok (.iconst 1, 1) := by decide +kernel
theorem d_M_move_89 : decode b_M_move 89 = .ok (.goto 4, 3) := by decide +kernel
theorem d_M_move_92 : decode b_M_move 92 = .ok (.iconst 0, 1) := by decide +kernel
theorem d_M_move_93 : decode b_M_move 93 = .ok (.istore 8, 2) := by decide +kernel
theorem d_M_move_95 : decode b_M_move 95 = .ok (.aload_n 0, 1) := by decide +kernel
theorem d_M_move_96 : decode b_M_move 96 = .ok (.iload_n 1, 1) := by decide +kernel
theorem d_M_move_97 : decode b_M_move 97 = .ok (.lload_n 2, 1) := by decide +kernel
theorem d_M_move_98 : decode b_M_move 98 = .ok (.lload 4, 2) := by decide +kernel
theorem d_M_move_100 : decode b_M_move 100 = .ok (.iload 6, 2) := by decide +kernel
theorem d_M_move_102 : decode b_M_move 102 = .ok (.iload 7, 2) := by decide +kernel
theorem d_M_move_104 : decode b_M_move 104 = .ok (.invokevirtual 146, 3) := by decide +kernel
theorem d_M_move_107 : decode b_M_move 107 = .ok (.iload 8, 2) := by decide +kernel
theorem d_M_move_109 : decode b_M_move 109 = .ok (.ireturn, 1) := by decide +kernel
abbrev rm_M_move : Room := { frames := 2, cells := 0, slots := 0, locals := 50 }
theorem ce_M_move : gCe y_M_move (.code y_M_move b_M_move 9 (some .boolean)) 9 5 false := gCe.code wd_954 wd_57 wd_952 (by decide) (by decide +kernel)
def f_M_move (g0 : gG) (a0 : Nat) (p1 : Int32) (p2 : Int64) (p3 : Int64) (p4 : Int32) (p5 : Int32) (w : gW) : gX Int32 := (gck w a0 7).bind fun _ => gbind (f_M_isPlaced g0 a0 p1 w) fun v5 w => gjoin (fun K31 => if v5 = 0 then (K31 1 w) else (gbind (f_M_isSpot g0 p2 p3 p4 p5 w) fun v42 w => if v42 = 0 then (K31 2 w) else (K31 0 w))) (fun (y6 : Int32) (w : gW) => (gp w a0 7 0 (.int y6)).bind fun w => (gfI w a0 7 0).bind fun v8 => if v8 = 0 then ((gfA w a0 7 14).bind fun v11 => (gaJ w v11 p1).bind fun v13 => gjoin (fun K93 => gjoin (fun K88 => if v13 = p2 then ((gfA w a0 7 15).bind fun v23 => (gaJ w v23 p1).bind fun v25 => if v25 = p3 then ((gfA w a0 7 16).bind fun v28 => (gaI w v28 p1).bind fun v30 => if v30 = p4 then ((gfA w a0 7 17).bind fun v33 => (gaI w v33 p1).bind fun v35 => if v35 = p5 then (K93 0 w) else (K88 w)) else (K88 w)) else (K88 w)) else (K88 w)) (fun (w : gW) => K93 1 w)) (fun (y15 : Int32) (w : gW) => (gck w a0 7).bind fun _ => gbind (f_M_set g0 a0 p1 p2 p3 p4 p5 w) fun v20 w => gguard (y15 = 0 ∨ y15 = 1) (some (.inr y15, w)))) else (gguard ((0 : Int32) = 0 ∨ (0 : Int32) = 1) (some (.inr 0, w))))
set_option maxHeartbeats 4000000 in
set_option maxRecDepth 100000 in
theorem m_M_move (l : Launch) (hst : l.stackTraces = false) (D : gD) (g0 : gG) (a0 : Nat) (p1 : Int32) (p2 : Int64) (p3 : Int64) (p4 : Int32) (p5 : Int32) (w : gW) (r : (String ⊕ Int32) × gW) (h : f_M_move g0 a0 p1 p2 p3 p4 p5 w = some r) : gMet l y_M_move (.code y_M_move b_M_move 9 (some .boolean)) rm_M_move D g0 [.ref a0, .int p1, .long p2, .long p3, .int p4, .int p5] w (goI r) := by
  refine gw_ofZ (by decide +kernel) (Nat.le_of_ble_eq_true rfl) ?_
  intro p e s m below meth c ls args A Q hx hb hml hown hlocks hin hnt hT hK hZ hA hret hexc hthr hI hl
  obtain ⟨H, hH⟩ : ∃ H, H = s.heap := ⟨_, rfl⟩
  rw [← hH] at hI ⊢
  obtain ⟨locs, hlocs⟩ : ∃ z : List Loc, z = [] := ⟨_, rfl⟩
  rw [← hlocs] at hI ⊢
  have hl : lv_has ls 9 [(0, .ref a0), (1, .int p1), (2, .long p2), (4, .long p3), (6, .int p4), (7, .int p5)] := hl
  unfold f_M_move at h
  refine lv_aload_n hx hb d_M_move_0 rfl (lv_at hl 0 rfl) ?_
  refine lv_aload_n hx hb d_M_move_1 rfl (lv_at hl 0 rfl) ?_
  refine lv_iload_n hx hb d_M_move_2 rfl (lv_at hl 1 rfl) ?_
  obtain ⟨q3, e4, h⟩ := gb h
  obtain ⟨u1, e2⟩ := gsome h
  refine gw_callI e2 h (gw_runV (As := [.int p1]) (rest := [.ref a0]) hx hb hml hown hT hK hZ hA hI (ci := 7) rfl e4 (m_M_isPlaced l hst D g0 a0 p1 w u1 e2) ce_M_isPlaced wd_955 wd_23 ⟨by decide, by decide⟩ rfl rfl hl.1 rfl (lv_room (Nat.le_of_ble_eq_true rfl)) d_M_move_3 ⟨(show 0 + 0 ≤ 0 by omega), (show 0 + 0 ≤ 0 by omega)⟩) hI hA hexc (show 0 + 0 ≤ 0 by omega) (show 0 + 0 ≤ 0 by omega) (fun v5 w H locs h hI => ?_)
  obtain ⟨K31, eK31, h⟩ := gj h
  have hK31 : ∀ (y6 : Int32) (w : gW) (H : Heap) (locs : List Loc) (ls : Array Slot), K31 y6 w = some r → gI D s A w H locs → lv_has ls 9 [(0, .ref a0), (1, .int p1), (2, .long p2), (4, .long p3), (6, .int p4), (7, .int p5)] → W p l e rm_M_move s m args below meth c H locs 0 0 Q (F0 m 31 ls [.int y6, .ref a0]) := by
    intro y6 w H locs ls h hI hl
    have h := gk2 eK31 h
    obtain ⟨w, e7, h⟩ := gb h
    refine gw_put hx hb hT hown hK hI (ci := 7) rfl i_7 t_7 t_7_ok n_7 0 (by decide) wd_786 (fun _ h9 => h9) rfl (ty := .int) (by decide +kernel) rfl rfl e7 d_M_move_31 (fun H locs hI => ?_)
    refine lv_aload_n hx hb d_M_move_34 rfl (lv_at hl 0 rfl) ?_
    obtain ⟨v8, e9, h⟩ := gb h
    refine gw_getI hx hb hT hown hK hI (ci := 7) rfl i_7 0 (by decide) wd_786 (fun _ h9 => h9) e9 d_M_move_35 ?_
    refine lv_if_eq (tgt := 43) hx hb d_M_move_38 (by decide) (fun c10 => ?_) (fun c10 => ?_)
    · skip
      have h := git c10 h
      refine lv_aload_n hx hb d_M_move_43 rfl (lv_at hl 0 rfl) ?_
      obtain ⟨v11, e12, h⟩ := gb h
      refine gw_getA hx hb hT hown hK hI (ci := 7) rfl i_7 14 (by decide) wd_800 (fun _ h9 => h9) e12 d_M_move_44 ?_
      refine lv_iload_n hx hb d_M_move_47 rfl (lv_at hl 1 rfl) ?_
      obtain ⟨v13, e14, h⟩ := gb h
      refine gw_aldJ hx hb hK hI e14 d_M_move_48 ?_
      refine lv_lload_n hx hb d_M_move_49 rfl (lv_at hl 2 rfl) ?_
      refine W.lcmp hx hb d_M_move_50 ?_
      obtain ⟨K93, eK93, h⟩ := gj h
      have hK93 : ∀ (y15 : Int32) (w : gW) (H : Heap) (locs : List Loc) (ls : Array Slot), K93 y15 w = some r → gI D s A w H locs → lv_has ls 9 [(0, .ref a0), (1, .int p1), (2, .long p2), (4, .long p3), (6, .int p4), (7, .int p5)] → W p l e rm_M_move s m args below meth c H locs 0 0 Q (F0 m 93 ls [.int y15]) := by
        intro y15 w H locs ls h hI hl
        have h := gk2 eK93 h
        refine lv_istore (lv' := [(8, .int y15), (0, .ref a0), (1, .int p1), (2, .long p2), (4, .long p3), (6, .int p4), (7, .int p5)]) hx hb d_M_move_93 hl (by decide) rfl (fun ls hl => ?_)
        refine lv_aload_n hx hb d_M_move_95 rfl (lv_at hl 1 rfl) ?_
        refine lv_iload_n hx hb d_M_move_96 rfl (lv_at hl 2 rfl) ?_
        refine lv_lload_n hx hb d_M_move_97 rfl (lv_at hl 3 rfl) ?_
        refine lv_lload hx hb d_M_move_98 (lv_at hl 4 rfl) ?_
        refine lv_iload hx hb d_M_move_100 (lv_at hl 5 rfl) ?_
        refine lv_iload hx hb d_M_move_102 (lv_at hl 6 rfl) ?_
        obtain ⟨q18, e19, h⟩ := gb h
        obtain ⟨u16, e17⟩ := gsome h
        refine gw_callV e17 h (gw_runV (As := [.int p1, .long p2, .long p3, .int p4, .int p5]) (rest := []) hx hb hml hown hT hK hZ hA hI (ci := 7) rfl e19 (m_M_set l hst D g0 a0 p1 p2 p3 p4 p5 w u16 e17) ce_M_set wd_947 wd_22 ⟨by decide, by decide⟩ rfl rfl hl.1 rfl (lv_room (Nat.le_of_ble_eq_true rfl)) d_M_move_104 ⟨(show 0 + 0 ≤ 0 by omega), (show 0 + 0 ≤ 0 by omega)⟩) hI hA hexc (show 0 + 0 ≤ 0 by omega) (show 0 + 0 ≤ 0 by omega) (fun v20 w H locs h hI => ?_)
        refine lv_iload hx hb d_M_move_107 (lv_at hl 0 rfl) ?_
        obtain ⟨g21, h⟩ := gif h
        exact W.widen (show 0 ≤ 0 by omega) (show 0 ≤ 0 by omega) (hret g21 0 _ (Option.some.inj h).symm _ _ _ _ d_M_move_109 hI)
      obtain ⟨K88, eK88, h⟩ := gj h
      have hK88 : ∀ (w : gW) (H : Heap) (locs : List Loc) (ls : Array Slot), K88 w = some r → gI D s A w H locs → lv_has ls 9 [(0, .ref a0), (1, .int p1), (2, .long p2), (4, .long p3), (6, .int p4), (7, .int p5)] → W p l e rm_M_move s m args below meth c H locs 0 0 Q (F0 m 88 ls []) := by
        intro w H locs ls h hI hl
        have h := gk1 eK88 h
        refine lv_iconst (v := 1) hx hb d_M_move_88 (by decide) ?_
        refine lv_goto (tgt := 93) hx hb d_M_move_89 (by decide) ?_
        exact hK93 _ w H locs ls h hI (lv_sub hl [0, 1, 2, 3, 4, 5] rfl)
      refine lv_if_ne (tgt := 88) hx hb d_M_move_51 (by decide) (fun c22 => ?_) (fun c22 => ?_)
      · have c22 := mt (lg_cmp_eq _ _).mpr c22
        have h := gie c22 h
        exact hK88 w H locs ls h hI (lv_sub hl [0, 1, 2, 3, 4, 5] rfl)
      · have c22 := (lg_cmp_eq _ _).mp c22
        have h := git c22 h
        refine lv_aload_n hx hb d_M_move_54 rfl (lv_at hl 0 rfl) ?_
        obtain ⟨v23, e24, h⟩ := gb h
        refine gw_getA hx hb hT hown hK hI (ci := 7) rfl i_7 15 (by decide) wd_801 (fun _ h9 => h9) e24 d_M_move_55 ?_
        refine lv_iload_n hx hb d_M_move_58 rfl (lv_at hl 1 rfl) ?_
        obtain ⟨v25, e26, h⟩ := gb h
        refine gw_aldJ hx hb hK hI e26 d_M_move_59 ?_
        refine lv_lload hx hb d_M_move_60 (lv_at hl 3 rfl) ?_
        refine W.lcmp hx hb d_M_move_62 ?_
        refine lv_if_ne (tgt := 88) hx hb d_M_move_63 (by decide) (fun c27 => ?_) (fun c27 => ?_)
        · have c27 := mt (lg_cmp_eq _ _).mpr c27
          have h := gie c27 h
          exact hK88 w H locs ls h hI (lv_sub hl [0, 1, 2, 3, 4, 5] rfl)
        · have c27 := (lg_cmp_eq _ _).mp c27
          have h := git c27 h
          refine lv_aload_n hx hb d_M_move_66 rfl (lv_at hl 0 rfl) ?_
          obtain ⟨v28, e29, h⟩ := gb h
          refine gw_getA hx hb hT hown hK hI (ci := 7) rfl i_7 16 (by decide) wd_802 (fun _ h9 => h9) e29 d_M_move_67 ?_
          refine lv_iload_n hx hb d_M_move_70 rfl (lv_at hl 1 rfl) ?_
          obtain ⟨v30, e31, h⟩ := gb h
          refine gw_aldI hx hb hK hI e31 d_M_move_71 ?_
          refine lv_iload hx hb d_M_move_72 (lv_at hl 4 rfl) ?_
          refine lv_icmp_ne (tgt := 88) hx hb d_M_move_74 (by decide) (fun c32 => ?_) (fun c32 => ?_)
          · skip
            have h := gie c32 h
            exact hK88 w H locs ls h hI (lv_sub hl [0, 1, 2, 3, 4, 5] rfl)
          · skip
            have h := git c32 h
            refine lv_aload_n hx hb d_M_move_77 rfl (lv_at hl 0 rfl) ?_
            obtain ⟨v33, e34, h⟩ := gb h
            refine gw_getA hx hb hT hown hK hI (ci := 7) rfl i_7 17 (by decide) wd_803 (fun _ h9 => h9) e34 d_M_move_78 ?_
            refine lv_iload_n hx hb d_M_move_81 rfl (lv_at hl 1 rfl) ?_
            obtain ⟨v35, e36, h⟩ := gb h
            refine gw_aldI hx hb hK hI e36 d_M_move_82 ?_
            refine lv_iload hx hb d_M_move_83 (lv_at hl 5 rfl) ?_
            refine lv_icmp_eq (tgt := 92) hx hb d_M_move_85 (by decide) (fun c37 => ?_) (fun c37 => ?_)
            · skip
              have h := git c37 h
              refine lv_iconst (v := 0) hx hb d_M_move_92 (by decide) ?_
              exact hK93 _ w H locs ls h hI (lv_sub hl [0, 1, 2, 3, 4, 5] rfl)
            · skip
              have h := gie c37 h
              exact hK88 w H locs ls h hI (lv_sub hl [0, 1, 2, 3, 4, 5] rfl)
    · skip
      have h := gie c10 h
      refine lv_iconst (v := 0) hx hb d_M_move_41 (by decide) ?_
      obtain ⟨g38, h⟩ := gif h
      exact W.widen (show 0 ≤ 0 by omega) (show 0 ≤ 0 by omega) (hret g38 0 _ (Option.some.inj h).symm _ _ _ _ d_M_move_42 hI)
  refine lv_if_ne (tgt := 13) hx hb d_M_move_6 (by decide) (fun c39 => ?_) (fun c39 => ?_)
  · skip
    have h := gie c39 h
    refine lv_lload_n hx hb d_M_move_13 rfl (lv_at hl 2 rfl) ?_
    refine lv_lload hx hb d_M_move_14 (lv_at hl 3 rfl) ?_
    refine lv_iload hx hb d_M_move_16 (lv_at hl 4 rfl) ?_
    refine lv_iload hx hb d_M_move_18 (lv_at hl 5 rfl) ?_
    obtain ⟨u40, e41⟩ := gsome h
    refine gw_callI e41 h (gw_runS (As := [.long p2, .long p3, .int p4, .int p5]) (rest := [.ref a0]) hx hb hml hown hT hK hZ hA hI (m_M_isSpot l hst D g0 p2 p3 p4 p5 w u40 e41) ce_M_isSpot wd_944 ⟨by decide, by decide⟩ rfl rfl hl.1 rfl (lv_room (Nat.le_of_ble_eq_true rfl)) d_M_move_20 ⟨(show 0 + 0 ≤ 0 by omega), (show 0 + 0 ≤ 0 by omega)⟩) hI hA hexc (show 0 + 0 ≤ 0 by omega) (show 0 + 0 ≤ 0 by omega) (fun v42 w H locs h hI => ?_)
    refine lv_if_eq (tgt := 30) hx hb d_M_move_23 (by decide) (fun c43 => ?_) (fun c43 => ?_)
    · skip
      have h := git c43 h
      refine lv_iconst (v := 2) hx hb d_M_move_30 (by decide) ?_
      exact hK31 _ w H locs ls h hI (lv_sub hl [0, 1, 2, 3, 4, 5] rfl)
    · skip
      have h := gie c43 h
      refine lv_iconst (v := 0) hx hb d_M_move_26 (by decide) ?_
      refine lv_goto (tgt := 31) hx hb d_M_move_27 (by decide) ?_
      exact hK31 _ w H locs ls h hI (lv_sub hl [0, 1, 2, 3, 4, 5] rfl)
  · skip
    have h := git c39 h
    refine lv_iconst (v := 1) hx hb d_M_move_9 (by decide) ?_
    refine lv_goto (tgt := 31) hx hb d_M_move_10 (by decide) ?_
    exact hK31 _ w H locs ls h hI (lv_sub hl [0, 1, 2, 3, 4, 5] rfl)

abbrev b_M_pair : ByteArray := prog_9_method_55_code
def y_M_pair : MethodName := ⟨"BodySolidsModel", "pair", "(II)I"⟩
theorem d_M_pair_0 : decode b_M_pair 0 = .ok (.aload_n 0, 1) := by decide +kernel
theorem d_M_pair_1 : decode b_M_pair 1 = .ok (.iload_n 2, 1) := by decide +kernel
theorem d_M_pair_2 : decode b_M_pair 2 = .ok (.ifCond .eq 8, 3) := by decide +kernel
theorem d_M_pair_5 : decode b_M_pair 5 = .ok (.iload_n 2, 1) := by decide +kernel
theorem d_M_pair_6 : decode b_M_pair 6 = .ok (.iconst 1, 1) := by decide +kernel
theorem d_M_pair_7 : decode b_M_pair 7 = .ok (.if_icmp .ne 7, 3) := by decide +kernel
theorem d_M_pair_10 : decode b_M_pair 10 = .ok (.iconst 0, 1) := by decide +kernel
theorem d_M_pair_11 : decode b_M_pair 11 = .ok (.goto 4, 3) := by decide +kernel
theorem d_M_pair_14 : decode b_M_pair 14 = .ok (.iconst 1, 1) := by decide +kernel
theorem d_M_pair_15 : decode b_M_pair 15 = .ok (.putfield 80, 3) := by decide +kernel
theorem d_M_pair_18 : decode b_M_pair 18 = .ok (.aload_n 0, 1) := by decide +kernel
theorem d_M_pair_19 : decode b_M_pair 19 = .ok (.getfield 80, 3) := by decide +kernel
theorem d_M_pair_22 : decode b_M_pair 22 = .ok (.ifCond .eq 5, 3) := by decide +kernel
theorem d_M_pair_25 : decode b_M_pair 25 = .ok (.iconst 0, 1) := by decide +kernel
theorem d_M_pair_26 : decode b_M_pair 26 = .ok (.ireturn, 1) := by decide +kernel
theorem d_M_pair_27 : decode b_M_pair 27 = .ok (.iload_n 1, 1) := by decide +kernel
theorem d_M_pair_28 : decode b_M_pair 28 = .ok (.istore_n 3, 1) := by decide +kernel
theorem d_M_pair_29 : decode b_M_pair 29 = .ok (.iconst 0, 1) := by decide +kernel
theorem d_M_pair_30 : decode b_M_pair 30 = .ok (.istore 4, 2) := by decide +kernel
theorem d_M_pair_32 : decode b_M_pair 32 = .ok (.iload 4, 2) := by decide +kernel
theorem d_M_pair_34 : decode b_M_pair 34 = .ok (.aload_n 0, 1) := by decide +kernel
theorem d_M_pair_35 : decode b_M_pair 35 = .ok (.getfield 95, 3) := by decide +kernel
theorem d_M_pair_38 : decode b_M_pair 38 = .ok (.if_icmp .ge 68, 3) := by decide +kernel
theorem d_M_pair_41 : decode b_M_pair 41 = .ok (.iload_n 1, 1) := by decide +kernel
theorem d_M_pair_42 : decode b_M_pair 42 = .ok (.ifCond .lt 64, 3) := by decide +kernel
theorem d_M_pair_45 : decode b_M_pair 45 = .ok (.iload 4, 2) := by decide +kernel
theorem d_M_pair_47 : decode b_M_pair 47 = .ok (.iconst 1, 1) := by decide +kernel
theorem d_M_pair_48 : decode b_M_pair 48 = .ok (.iadd, 1) := by decide +kernel
theorem d_M_pair_49 : decode b_M_pair 49 = .ok (.istore 5, 2) := by decide +kernel
theorem d_M_pair_51 : decode b_M_pair 51 = .ok (.iload 5, 2) := by decide +kernel
theorem d_M_pair_53 : decode b_M_pair 53 = .ok (.aload_n 0, 1) := by decide +kernel
theorem d_M_pair_54 : decode b_M_pair 54 = .ok (.getfield 95, 3) := by decide +kernel
theorem d_M_pair_57 : decode b_M_pair 57 = .ok (.if_icmp .ge 43, 3) := by decide +kernel
theorem d_M_pair_60 : decode b_M_pair 60 = .ok (.aload_n 0, 1) := by decide +kernel
theorem d_M_pair_61 : decode b_M_pair 61 = .ok (.iload 4, 2) := by decide +kernel
theorem d_M_pair_63 : decode b_M_pair 63 = .ok (.iload 5, 2) := by decide +kernel
theorem d_M_pair_65 : decode b_M_pair 65 = .ok (.invokevirtual 259, 3) := by decide +kernel
theorem d_M_pair_68 : decode b_M_pair 68 = .ok (.iconst 2, 1) := by decide +kernel
theorem d_M_pair_69 : decode b_M_pair 69 = .ok (.if_icmp .eq 6, 3) := by decide +kernel
theorem d_M_pair_72 : decode b_M_pair 72 = .ok (.goto 22, 3) := by decide +kernel
theorem d_M_pair_75 : decode b_M_pair 75 = .ok (.iload_n 3, 1) := by decide +kernel
theorem d_M_pair_76 : decode b_M_pair 76 = .ok (.ifCond .ne 15, 3) := by decide +kernel
theorem d_M_pair_79 : decode b_M_pair 79 = .ok (.iload_n 2, 1) := by decide +kernel
theorem d_M_pair_80 : decode b_M_pair 80 = .ok (.ifCond .ne 8, 3) := by decide +kernel
theorem d_M_pair_83 : decode b_M_pair 83 = .ok (.iload 4, 2) := by decide +kernel
theorem d_M_pair_85 : decode b_M_pair 85 = .ok (.goto 5, 3) := by decide +kernel
theorem d_M_pair_88 : decode b_M_pair 88 = .ok (.iload 5, 2) := by decide +kernel
theorem d_M_pair_90 : decode b_M_pair 90 = .ok (.ireturn, 1) := by decide +kernel
theorem d_M_pair_91 : decode b_M_pair 91 = .ok (.iinc 3 (-1), 3) := by decide +kernel
theorem d_M_pair_94 : decode b_M_pair 94 = .ok (.iinc 5 1, 3) := by decide +kernel
theorem d_M_pair_97 : decode b_M_pair 97 = .ok (.goto (-46), 3) := by decide +kernel
theorem d_M_pair_100 : decode b_M_pair 100 = .ok (.iinc 4 1, 3) := by decide +kernel
theorem d_M_pair_103 : decode b_M_pair 103 = .ok (.goto (-71), 3) := by decide +kernel
theorem d_M_pair_106 : decode b_M_pair 106 = .ok (.iconst (-1), 1) := by decide +kernel
theorem d_M_pair_107 : decode b_M_pair 107 = .ok (.ireturn, 1) := by decide +kernel
abbrev rm_M_pair : Room := { frames := 6, cells := 0, slots := 0, locals := 189 }
theorem ce_M_pair : gCe y_M_pair (.code y_M_pair b_M_pair 6 (some .int)) 6 2 false := gCe.code wd_1074 wd_57 wd_1072 (by decide) (by decide +kernel)
def f_M_pair_L51 (g0 : gG) (c0 : Nat) (c1 : Int32) (c2 : Int32) (c4 : Int32) (K100 : Int32 → gW → gX Int32) (K79 : Int32 → Int32 → gW → gX Int32) : Nat → Int32 → Int32 → gW → gX Int32
  | 0, _, _, _ => none
  | n + 1, z3, z5, w => (gfI w c0 7 12).bind fun v15 => if v15 ≤ z5 then (K100 z3 w) else ((gck w c0 7).bind fun _ => gbind (f_M_meet g0 c0 c4 z5 w) fun v22 w => gjoin (fun K94 => if v22 = 2 then (if z3 = 0 then (K79 c4 z5 w) else (K94 (z3 + (-1)) w)) else (K94 z3 w)) (fun (x23 : Int32) (w : gW) => f_M_pair_L51 g0 c0 c1 c2 c4 K100 K79 n x23 (z5 + 1) w))
def f_M_pair_L32 (g0 : gG) (c0 : Nat) (c1 : Int32) (c2 : Int32) (K106 : gW → gX Int32) (K79 : Int32 → Int32 → gW → gX Int32) : Nat → Int32 → Int32 → gW → gX Int32
  | 0, _, _, _ => none
  | n + 1, z3, z4, w => (gfI w c0 7 12).bind fun v10 => if v10 ≤ z4 then (K106 w) else (if c1 < 0 then (K106 w) else (gjoin (fun K100 => f_M_pair_L51 g0 c0 c1 c2 z4 K100 K79 64 z3 (z4 + 1) w) (fun (x14 : Int32) (w : gW) => f_M_pair_L32 g0 c0 c1 c2 K106 K79 n x14 (z4 + 1) w)))
def f_M_pair (g0 : gG) (a0 : Nat) (p1 : Int32) (p2 : Int32) (w : gW) : gX Int32 := gjoin (fun K15 => gjoin (fun K10 => if p2 = 0 then (K10 w) else (if p2 = 1 then (K10 w) else (K15 1 w))) (fun (w : gW) => K15 0 w)) (fun (y1 : Int32) (w : gW) => (gp w a0 7 0 (.int y1)).bind fun w => (gfI w a0 7 0).bind fun v3 => if v3 = 0 then (gjoin (fun K106 => gjoin (fun K79 => f_M_pair_L32 g0 a0 p1 p2 K106 K79 64 p1 0 w) (fun (x6 : Int32) (x7 : Int32) (w : gW) => gjoin (fun K90 => if p2 = 0 then (K90 x6 w) else (K90 x7 w)) (fun (y8 : Int32) (w : gW) => some (.inr y8, w)))) (fun (w : gW) => some (.inr (-1), w))) else (some (.inr 0, w)))
set_option maxHeartbeats 4000000 in
set_option maxRecDepth 100000 in
theorem m_M_pair (l : Launch) (hst : l.stackTraces = false) (D : gD) (g0 : gG) (a0 : Nat) (p1 : Int32) (p2 : Int32) (w : gW) (r : (String ⊕ Int32) × gW) (h : f_M_pair g0 a0 p1 p2 w = some r) : gMet l y_M_pair (.code y_M_pair b_M_pair 6 (some .int)) rm_M_pair D g0 [.ref a0, .int p1, .int p2] w (goI r) := by
  refine gw_ofI (by decide +kernel) (Nat.le_of_ble_eq_true rfl) ?_
  intro p e s m below meth c ls args A Q hx hb hml hown hlocks hin hnt hT hK hZ hA hret hexc hthr hI hl
  obtain ⟨H, hH⟩ : ∃ H, H = s.heap := ⟨_, rfl⟩
  rw [← hH] at hI ⊢
  obtain ⟨locs, hlocs⟩ : ∃ z : List Loc, z = [] := ⟨_, rfl⟩
  rw [← hlocs] at hI ⊢
  have hl : lv_has ls 6 [(0, .ref a0), (1, .int p1), (2, .int p2)] := hl
  unfold f_M_pair at h
  refine lv_aload_n hx hb d_M_pair_0 rfl (lv_at hl 0 rfl) ?_
  refine lv_iload_n hx hb d_M_pair_1 rfl (lv_at hl 2 rfl) ?_
  obtain ⟨K15, eK15, h⟩ := gj h
  have hK15 : ∀ (y1 : Int32) (w : gW) (H : Heap) (locs : List Loc) (ls : Array Slot), K15 y1 w = some r → gI D s A w H locs → lv_has ls 6 [(0, .ref a0), (1, .int p1), (2, .int p2)] → W p l e rm_M_pair s m args below meth c H locs 0 0 Q (F0 m 15 ls [.int y1, .ref a0]) := by
    intro y1 w H locs ls h hI hl
    have h := gk2 eK15 h
    obtain ⟨w, e2, h⟩ := gb h
    refine gw_put hx hb hT hown hK hI (ci := 7) rfl i_7 t_7 t_7_ok n_7 0 (by decide) wd_786 (fun _ h9 => h9) rfl (ty := .int) (by decide +kernel) rfl rfl e2 d_M_pair_15 (fun H locs hI => ?_)
    refine lv_aload_n hx hb d_M_pair_18 rfl (lv_at hl 0 rfl) ?_
    obtain ⟨v3, e4, h⟩ := gb h
    refine gw_getI hx hb hT hown hK hI (ci := 7) rfl i_7 0 (by decide) wd_786 (fun _ h9 => h9) e4 d_M_pair_19 ?_
    refine lv_if_eq (tgt := 27) hx hb d_M_pair_22 (by decide) (fun c5 => ?_) (fun c5 => ?_)
    · skip
      have h := git c5 h
      refine lv_iload_n hx hb d_M_pair_27 rfl (lv_at hl 1 rfl) ?_
      refine lv_istore_n (lv' := [(3, .int p1), (0, .ref a0), (1, .int p1), (2, .int p2)]) hx hb d_M_pair_28 rfl hl (by decide) rfl (fun ls hl => ?_)
      refine lv_iconst (v := 0) hx hb d_M_pair_29 (by decide) ?_
      refine lv_istore (lv' := [(4, .int 0), (3, .int p1), (0, .ref a0), (1, .int p1), (2, .int p2)]) hx hb d_M_pair_30 hl (by decide) rfl (fun ls hl => ?_)
      obtain ⟨K106, eK106, h⟩ := gj h
      have hK106 : ∀ (w : gW) (H : Heap) (locs : List Loc) (ls : Array Slot), K106 w = some r → gI D s A w H locs → lv_has ls 6 [] → W p l e rm_M_pair s m args below meth c H locs 0 0 Q (F0 m 106 ls []) := by
        intro w H locs ls h hI hl
        have h := gk1 eK106 h
        refine lv_iconst (v := -1) hx hb d_M_pair_106 (by decide) ?_
        exact W.widen (show 0 ≤ 0 by omega) (show 0 ≤ 0 by omega) (hret _ _ (Option.some.inj h).symm _ _ _ _ d_M_pair_107 hI)
      obtain ⟨K79, eK79, h⟩ := gj h
      have hK79 : ∀ (x6 : Int32) (x7 : Int32) (w : gW) (H : Heap) (locs : List Loc) (ls : Array Slot), K79 x6 x7 w = some r → gI D s A w H locs → lv_has ls 6 [(2, .int p2), (4, .int x6), (5, .int x7)] → W p l e rm_M_pair s m args below meth c H locs 0 0 Q (F0 m 79 ls []) := by
        intro x6 x7 w H locs ls h hI hl
        have h := gk3 eK79 h
        refine lv_iload_n hx hb d_M_pair_79 rfl (lv_at hl 0 rfl) ?_
        obtain ⟨K90, eK90, h⟩ := gj h
        have hK90 : ∀ (y8 : Int32) (w : gW) (H : Heap) (locs : List Loc) (ls : Array Slot), K90 y8 w = some r → gI D s A w H locs → lv_has ls 6 [] → W p l e rm_M_pair s m args below meth c H locs 0 0 Q (F0 m 90 ls [.int y8]) := by
          intro y8 w H locs ls h hI hl
          have h := gk2 eK90 h
          exact W.widen (show 0 ≤ 0 by omega) (show 0 ≤ 0 by omega) (hret _ _ (Option.some.inj h).symm _ _ _ _ d_M_pair_90 hI)
        refine lv_if_ne (tgt := 88) hx hb d_M_pair_80 (by decide) (fun c9 => ?_) (fun c9 => ?_)
        · skip
          have h := gie c9 h
          refine lv_iload hx hb d_M_pair_88 (lv_at hl 2 rfl) ?_
          exact hK90 _ w H locs ls h hI (lv_sub hl [] rfl)
        · skip
          have h := git c9 h
          refine lv_iload hx hb d_M_pair_83 (lv_at hl 1 rfl) ?_
          refine lv_goto (tgt := 90) hx hb d_M_pair_85 (by decide) ?_
          exact hK90 _ w H locs ls h hI (lv_sub hl [] rfl)
      have hL32 : ∀ (n : Nat), ∀ (z10 : Int32) (z11 : Int32) (w : gW) (H : Heap) (locs : List Loc) (ls : Array Slot), f_M_pair_L32 g0 a0 p1 p2 K106 K79 n z10 z11 w = some r → gI D s A w H locs → lv_has ls 6 [(0, .ref a0), (1, .int p1), (2, .int p2), (3, .int z10), (4, .int z11)] → W p l e rm_M_pair s m args below meth c H locs 0 0 Q (F0 m 32 ls []) := by
        intro n
        induction n with
        | zero => intro z10 z11 w H locs ls h hI hl; exact absurd h (by simp [f_M_pair_L32])
        | succ n ih =>
          intro z10 z11 w H locs ls h hI hl
          rw [f_M_pair_L32] at h
          refine lv_iload hx hb d_M_pair_32 (lv_at hl 4 rfl) ?_
          refine lv_aload_n hx hb d_M_pair_34 rfl (lv_at hl 0 rfl) ?_
          obtain ⟨v12, e13, h⟩ := gb h
          refine gw_getI hx hb hT hown hK hI (ci := 7) rfl i_7 12 (by decide) wd_798 (fun _ h9 => h9) e13 d_M_pair_35 ?_
          refine lv_icmp_ge (tgt := 106) hx hb d_M_pair_38 (by decide) (fun c14 => ?_) (fun c14 => ?_)
          · skip
            have h := git c14 h
            exact hK106 w H locs ls h hI (lv_sub hl [] rfl)
          · skip
            have h := gie c14 h
            refine lv_iload_n hx hb d_M_pair_41 rfl (lv_at hl 1 rfl) ?_
            refine lv_if_lt (tgt := 106) hx hb d_M_pair_42 (by decide) (fun c15 => ?_) (fun c15 => ?_)
            · skip
              have h := git c15 h
              exact hK106 w H locs ls h hI (lv_sub hl [] rfl)
            · skip
              have h := gie c15 h
              refine lv_iload hx hb d_M_pair_45 (lv_at hl 4 rfl) ?_
              refine lv_iconst (v := 1) hx hb d_M_pair_47 (by decide) ?_
              refine lv_iadd hx hb d_M_pair_48 ?_
              refine lv_istore (lv' := [(5, .int (z11 + 1)), (0, .ref a0), (1, .int p1), (2, .int p2), (3, .int z10), (4, .int z11)]) hx hb d_M_pair_49 hl (by decide) rfl (fun ls hl => ?_)
              obtain ⟨K100, eK100, h⟩ := gj h
              have hK100 : ∀ (x16 : Int32) (w : gW) (H : Heap) (locs : List Loc) (ls : Array Slot), K100 x16 w = some r → gI D s A w H locs → lv_has ls 6 [(0, .ref a0), (1, .int p1), (2, .int p2), (3, .int x16), (4, .int z11)] → W p l e rm_M_pair s m args below meth c H locs 0 0 Q (F0 m 100 ls []) := by
                intro x16 w H locs ls h hI hl
                have h := gk2 eK100 h
                refine lv_iinc (v := z11 + 1) (lv' := [(4, .int (z11 + 1)), (0, .ref a0), (1, .int p1), (2, .int p2), (3, .int x16)]) hx hb d_M_pair_100 hl (k := 4) rfl rfl (by decide) rfl (fun ls hl => ?_)
                refine lv_goto (tgt := 32) hx hb d_M_pair_103 (by decide) ?_
                exact ih _ _ w H locs ls h hI (lv_sub hl [1, 2, 3, 4, 0] rfl)
              have hL51 : ∀ (n : Nat), ∀ (z17 : Int32) (z18 : Int32) (w : gW) (H : Heap) (locs : List Loc) (ls : Array Slot), f_M_pair_L51 g0 a0 p1 p2 z11 K100 K79 n z17 z18 w = some r → gI D s A w H locs → lv_has ls 6 [(0, .ref a0), (1, .int p1), (2, .int p2), (4, .int z11), (3, .int z17), (5, .int z18)] → W p l e rm_M_pair s m args below meth c H locs 0 0 Q (F0 m 51 ls []) := by
                intro n
                induction n with
                | zero => intro z17 z18 w H locs ls h hI hl; exact absurd h (by simp [f_M_pair_L51])
                | succ n ih =>
                  intro z17 z18 w H locs ls h hI hl
                  rw [f_M_pair_L51] at h
                  refine lv_iload hx hb d_M_pair_51 (lv_at hl 5 rfl) ?_
                  refine lv_aload_n hx hb d_M_pair_53 rfl (lv_at hl 0 rfl) ?_
                  obtain ⟨v19, e20, h⟩ := gb h
                  refine gw_getI hx hb hT hown hK hI (ci := 7) rfl i_7 12 (by decide) wd_798 (fun _ h9 => h9) e20 d_M_pair_54 ?_
                  refine lv_icmp_ge (tgt := 100) hx hb d_M_pair_57 (by decide) (fun c21 => ?_) (fun c21 => ?_)
                  · skip
                    have h := git c21 h
                    exact hK100 _ w H locs ls h hI (lv_sub hl [0, 1, 2, 4, 3] rfl)
                  · skip
                    have h := gie c21 h
                    refine lv_aload_n hx hb d_M_pair_60 rfl (lv_at hl 0 rfl) ?_
                    refine lv_iload hx hb d_M_pair_61 (lv_at hl 3 rfl) ?_
                    refine lv_iload hx hb d_M_pair_63 (lv_at hl 5 rfl) ?_
                    obtain ⟨q24, e25, h⟩ := gb h
                    obtain ⟨u22, e23⟩ := gsome h
                    refine gw_callI e23 h (gw_runV (As := [.int z11, .int z18]) (rest := []) hx hb hml hown hT hK hZ hA hI (ci := 7) rfl e25 (m_M_meet l hst D g0 a0 z11 z18 w u22 e23) ce_M_meet wd_963 wd_24 ⟨by decide, by decide⟩ rfl rfl hl.1 rfl (lv_room (Nat.le_of_ble_eq_true rfl)) d_M_pair_65 ⟨(show 0 + 0 ≤ 0 by omega), (show 0 + 0 ≤ 0 by omega)⟩) hI hA hexc (show 0 + 0 ≤ 0 by omega) (show 0 + 0 ≤ 0 by omega) (fun v26 w H locs h hI => ?_)
                    refine lv_iconst (v := 2) hx hb d_M_pair_68 (by decide) ?_
                    obtain ⟨K94, eK94, h⟩ := gj h
                    have hK94 : ∀ (x27 : Int32) (w : gW) (H : Heap) (locs : List Loc) (ls : Array Slot), K94 x27 w = some r → gI D s A w H locs → lv_has ls 6 [(0, .ref a0), (1, .int p1), (2, .int p2), (3, .int x27), (4, .int z11), (5, .int z18)] → W p l e rm_M_pair s m args below meth c H locs 0 0 Q (F0 m 94 ls []) := by
                      intro x27 w H locs ls h hI hl
                      have h := gk2 eK94 h
                      refine lv_iinc (v := z18 + 1) (lv' := [(5, .int (z18 + 1)), (0, .ref a0), (1, .int p1), (2, .int p2), (3, .int x27), (4, .int z11)]) hx hb d_M_pair_94 hl (k := 5) rfl rfl (by decide) rfl (fun ls hl => ?_)
                      refine lv_goto (tgt := 51) hx hb d_M_pair_97 (by decide) ?_
                      exact ih _ _ w H locs ls h hI (lv_sub hl [1, 2, 3, 5, 4, 0] rfl)
                    refine lv_icmp_eq (tgt := 75) hx hb d_M_pair_69 (by decide) (fun c28 => ?_) (fun c28 => ?_)
                    · skip
                      have h := git c28 h
                      refine lv_iload_n hx hb d_M_pair_75 rfl (lv_at hl 4 rfl) ?_
                      refine lv_if_ne (tgt := 91) hx hb d_M_pair_76 (by decide) (fun c29 => ?_) (fun c29 => ?_)
                      · skip
                        have h := gie c29 h
                        refine lv_iinc (v := z17 + (-1)) (lv' := [(3, .int (z17 + (-1))), (0, .ref a0), (1, .int p1), (2, .int p2), (4, .int z11), (5, .int z18)]) hx hb d_M_pair_91 hl (k := 4) rfl rfl (by decide) rfl (fun ls hl => ?_)
                        exact hK94 _ w H locs ls h hI (lv_sub hl [1, 2, 3, 0, 4, 5] rfl)
                      · skip
                        have h := git c29 h
                        exact hK79 _ _ w H locs ls h hI (lv_sub hl [2, 3, 5] rfl)
                    · skip
                      have h := gie c28 h
                      refine lv_goto (tgt := 94) hx hb d_M_pair_72 (by decide) ?_
                      exact hK94 _ w H locs ls h hI (lv_sub hl [0, 1, 2, 4, 3, 5] rfl)
              exact hL51 64 _ _ w H locs ls h hI (lv_sub hl [1, 2, 3, 5, 4, 0] rfl)
      exact hL32 64 _ _ w H locs ls h hI (lv_sub hl [2, 3, 4, 1, 0] rfl)
    · skip
      have h := gie c5 h
      refine lv_iconst (v := 0) hx hb d_M_pair_25 (by decide) ?_
      exact W.widen (show 0 ≤ 0 by omega) (show 0 ≤ 0 by omega) (hret _ _ (Option.some.inj h).symm _ _ _ _ d_M_pair_26 hI)
  obtain ⟨K10, eK10, h⟩ := gj h
  have hK10 : ∀ (w : gW) (H : Heap) (locs : List Loc) (ls : Array Slot), K10 w = some r → gI D s A w H locs → lv_has ls 6 [(0, .ref a0), (1, .int p1), (2, .int p2)] → W p l e rm_M_pair s m args below meth c H locs 0 0 Q (F0 m 10 ls [.ref a0]) := by
    intro w H locs ls h hI hl
    have h := gk1 eK10 h
    refine lv_iconst (v := 0) hx hb d_M_pair_10 (by decide) ?_
    refine lv_goto (tgt := 15) hx hb d_M_pair_11 (by decide) ?_
    exact hK15 _ w H locs ls h hI (lv_sub hl [0, 1, 2] rfl)
  refine lv_if_eq (tgt := 10) hx hb d_M_pair_2 (by decide) (fun c30 => ?_) (fun c30 => ?_)
  · skip
    have h := git c30 h
    exact hK10 w H locs ls h hI (lv_sub hl [0, 1, 2] rfl)
  · skip
    have h := gie c30 h
    refine lv_iload_n hx hb d_M_pair_5 rfl (lv_at hl 2 rfl) ?_
    refine lv_iconst (v := 1) hx hb d_M_pair_6 (by decide) ?_
    refine lv_icmp_ne (tgt := 14) hx hb d_M_pair_7 (by decide) (fun c31 => ?_) (fun c31 => ?_)
    · skip
      have h := gie c31 h
      refine lv_iconst (v := 1) hx hb d_M_pair_14 (by decide) ?_
      exact hK15 _ w H locs ls h hI (lv_sub hl [0, 1, 2] rfl)
    · skip
      have h := git c31 h
      exact hK10 w H locs ls h hI (lv_sub hl [0, 1, 2] rfl)
