abbrev b_M_init : ByteArray := prog_9_method_1_code
def y_M_init : MethodName := ⟨"BodySolidsModel", "<init>", "(J)V"⟩
theorem d_M_init_0 : decode b_M_init 0 = .ok (.aload_n 0, 1) := by decide +kernel
theorem d_M_init_1 : decode b_M_init 1 = .ok (.invokespecial 1, 3) := by decide +kernel
theorem d_M_init_4 : decode b_M_init 4 = .ok (.aload_n 0, 1) := by decide +kernel
theorem d_M_init_5 : decode b_M_init 5 = .ok (.bipush 30, 2) := by decide +kernel
theorem d_M_init_7 : decode b_M_init 7 = .ok (.newarray .int, 2) := by decide +kernel
theorem d_M_init_9 : decode b_M_init 9 = .ok (.putfield 7, 3) := by decide +kernel
theorem d_M_init_12 : decode b_M_init 12 = .ok (.aload_n 0, 1) := by decide +kernel
theorem d_M_init_13 : decode b_M_init 13 = .ok (.sipush 360, 3) := by decide +kernel
theorem d_M_init_16 : decode b_M_init 16 = .ok (.newarray .int, 2) := by decide +kernel
theorem d_M_init_18 : decode b_M_init 18 = .ok (.putfield 13, 3) := by decide +kernel
theorem d_M_init_21 : decode b_M_init 21 = .ok (.aload_n 0, 1) := by decide +kernel
theorem d_M_init_22 : decode b_M_init 22 = .ok (.sipush 2160, 3) := by decide +kernel
theorem d_M_init_25 : decode b_M_init 25 = .ok (.newarray .long, 2) := by decide +kernel
theorem d_M_init_27 : decode b_M_init 27 = .ok (.putfield 16, 3) := by decide +kernel
theorem d_M_init_30 : decode b_M_init 30 = .ok (.aload_n 0, 1) := by decide +kernel
theorem d_M_init_31 : decode b_M_init 31 = .ok (.sipush 360, 3) := by decide +kernel
theorem d_M_init_34 : decode b_M_init 34 = .ok (.newarray .int, 2) := by decide +kernel
theorem d_M_init_36 : decode b_M_init 36 = .ok (.putfield 20, 3) := by decide +kernel
theorem d_M_init_39 : decode b_M_init 39 = .ok (.aload_n 0, 1) := by decide +kernel
theorem d_M_init_40 : decode b_M_init 40 = .ok (.sipush 2880, 3) := by decide +kernel
theorem d_M_init_43 : decode b_M_init 43 = .ok (.newarray .long, 2) := by decide +kernel
theorem d_M_init_45 : decode b_M_init 45 = .ok (.putfield 23, 3) := by decide +kernel
theorem d_M_init_48 : decode b_M_init 48 = .ok (.aload_n 0, 1) := by decide +kernel
theorem d_M_init_49 : decode b_M_init 49 = .ok (.sipush 2880, 3) := by decide +kernel
theorem d_M_init_52 : decode b_M_init 52 = .ok (.newarray .long, 2) := by decide +kernel
theorem d_M_init_54 : decode b_M_init 54 = .ok (.putfield 26, 3) := by decide +kernel
theorem d_M_init_57 : decode b_M_init 57 = .ok (.aload_n 0, 1) := by decide +kernel
theorem d_M_init_58 : decode b_M_init 58 = .ok (.bipush 8, 2) := by decide +kernel
theorem d_M_init_60 : decode b_M_init 60 = .ok (.newarray .long, 2) := by decide +kernel
theorem d_M_init_62 : decode b_M_init 62 = .ok (.putfield 29, 3) := by decide +kernel
theorem d_M_init_65 : decode b_M_init 65 = .ok (.aload_n 0, 1) := by decide +kernel
theorem d_M_init_66 : decode b_M_init 66 = .ok (.bipush 8, 2) := by decide +kernel
theorem d_M_init_68 : decode b_M_init 68 = .ok (.newarray .long, 2) := by decide +kernel
theorem d_M_init_70 : decode b_M_init 70 = .ok (.putfield 32, 3) := by decide +kernel
theorem d_M_init_73 : decode b_M_init 73 = .ok (.aload_n 0, 1) := by decide +kernel
theorem d_M_init_74 : decode b_M_init 74 = .ok (.bipush 30, 2) := by decide +kernel
theorem d_M_init_76 : decode b_M_init 76 = .ok (.newarray .int, 2) := by decide +kernel
theorem d_M_init_78 : decode b_M_init 78 = .ok (.putfield 35, 3) := by decide +kernel
theorem d_M_init_81 : decode b_M_init 81 = .ok (.aload_n 0, 1) := by decide +kernel
theorem d_M_init_82 : decode b_M_init 82 = .ok (.bipush 30, 2) := by decide +kernel
theorem d_M_init_84 : decode b_M_init 84 = .ok (.newarray .long, 2) := by decide +kernel
theorem d_M_init_86 : decode b_M_init 86 = .ok (.putfield 38, 3) := by decide +kernel
theorem d_M_init_89 : decode b_M_init 89 = .ok (.aload_n 0, 1) := by decide +kernel
theorem d_M_init_90 : decode b_M_init 90 = .ok (.bipush 30, 2) := by decide +kernel
theorem d_M_init_92 : decode b_M_init 92 = .ok (.newarray .long, 2) := by decide +kernel
theorem d_M_init_94 : decode b_M_init 94 = .ok (.putfield 41, 3) := by decide +kernel
theorem d_M_init_97 : decode b_M_init 97 = .ok (.aload_n 0, 1) := by decide +kernel
theorem d_M_init_98 : decode b_M_init 98 = .ok (.bipush 30, 2) := by decide +kernel
theorem d_M_init_100 : decode b_M_init 100 = .ok (.newarray .int, 2) := by decide +kernel
theorem d_M_init_102 : decode b_M_init 102 = .ok (.putfield 44, 3) := by decide +kernel
theorem d_M_init_105 : decode b_M_init 105 = .ok (.aload_n 0, 1) := by decide +kernel
theorem d_M_init_106 : decode b_M_init 106 = .ok (.bipush 30, 2) := by decide +kernel
theorem d_M_init_108 : decode b_M_init 108 = .ok (.newarray .int, 2) := by decide +kernel
theorem d_M_init_110 : decode b_M_init 110 = .ok (.putfield 47, 3) := by decide +kernel
theorem d_M_init_113 : decode b_M_init 113 = .ok (.aload_n 0, 1) := by decide +kernel
theorem d_M_init_114 : decode b_M_init 114 = .ok (.bipush 60, 2) := by decide +kernel
theorem d_M_init_116 : decode b_M_init 116 = .ok (.newarray .long, 2) := by decide +kernel
theorem d_M_init_118 : decode b_M_init 118 = .ok (.putfield 50, 3) := by decide +kernel
theorem d_M_init_121 : decode b_M_init 121 = .ok (.aload_n 0, 1) := by decide +kernel
theorem d_M_init_122 : decode b_M_init 122 = .ok (.iconst 2, 1) := by decide +kernel
theorem d_M_init_123 : decode b_M_init 123 = .ok (.newarray .int, 2) := by decide +kernel
theorem d_M_init_125 : decode b_M_init 125 = .ok (.putfield 53, 3) := by decide +kernel
theorem d_M_init_128 : decode b_M_init 128 = .ok (.aload_n 0, 1) := by decide +kernel
theorem d_M_init_129 : decode b_M_init 129 = .ok (.iconst 2, 1) := by decide +kernel
theorem d_M_init_130 : decode b_M_init 130 = .ok (.newarray .int, 2) := by decide +kernel
theorem d_M_init_132 : decode b_M_init 132 = .ok (.putfield 56, 3) := by decide +kernel
theorem d_M_init_135 : decode b_M_init 135 = .ok (.aload_n 0, 1) := by decide +kernel
theorem d_M_init_136 : decode b_M_init 136 = .ok (.bipush 16, 2) := by decide +kernel
theorem d_M_init_138 : decode b_M_init 138 = .ok (.newarray .long, 2) := by decide +kernel
theorem d_M_init_140 : decode b_M_init 140 = .ok (.putfield 59, 3) := by decide +kernel
theorem d_M_init_143 : decode b_M_init 143 = .ok (.aload_n 0, 1) := by decide +kernel
theorem d_M_init_144 : decode b_M_init 144 = .ok (.bipush 16, 2) := by decide +kernel
theorem d_M_init_146 : decode b_M_init 146 = .ok (.newarray .long, 2) := by decide +kernel
theorem d_M_init_148 : decode b_M_init 148 = .ok (.putfield 62, 3) := by decide +kernel
theorem d_M_init_151 : decode b_M_init 151 = .ok (.aload_n 0, 1) := by decide +kernel
theorem d_M_init_152 : decode b_M_init 152 = .ok (.iconst 2, 1) := by decide +kernel
theorem d_M_init_153 : decode b_M_init 153 = .ok (.newarray .long, 2) := by decide +kernel
theorem d_M_init_155 : decode b_M_init 155 = .ok (.putfield 65, 3) := by decide +kernel
theorem d_M_init_158 : decode b_M_init 158 = .ok (.aload_n 0, 1) := by decide +kernel
theorem d_M_init_159 : decode b_M_init 159 = .ok (.iconst 2, 1) := by decide +kernel
theorem d_M_init_160 : decode b_M_init 160 = .ok (.newarray .long, 2) := by decide +kernel
theorem d_M_init_162 : decode b_M_init 162 = .ok (.putfield 68, 3) := by decide +kernel
theorem d_M_init_165 : decode b_M_init 165 = .ok (.aload_n 0, 1) := by decide +kernel
theorem d_M_init_166 : decode b_M_init 166 = .ok (.iconst 2, 1) := by decide +kernel
theorem d_M_init_167 : decode b_M_init 167 = .ok (.newarray .long, 2) := by decide +kernel
theorem d_M_init_169 : decode b_M_init 169 = .ok (.putfield 71, 3) := by decide +kernel
theorem d_M_init_172 : decode b_M_init 172 = .ok (.aload_n 0, 1) := by decide +kernel
theorem d_M_init_173 : decode b_M_init 173 = .ok (.lload_n 1, 1) := by decide +kernel
theorem d_M_init_174 : decode b_M_init 174 = .ok (.lconst 0, 1) := by decide +kernel
theorem d_M_init_175 : decode b_M_init 175 = .ok (.lcmp, 1) := by decide +kernel
theorem d_M_init_176 : decode b_M_init 176 = .ok (.ifCond .ge 7, 3) := by decide +kernel
theorem d_M_init_179 : decode b_M_init 179 = .ok (.lconst 0, 1) := by decide +kernel
theorem d_M_init_180 : decode b_M_init 180 = .ok (.goto 18, 3) := by decide +kernel
theorem d_M_init_183 : decode b_M_init 183 = .ok (.lload_n 1, 1) := by decide +kernel
theorem d_M_init_184 : decode b_M_init 184 = .ok (.ldc2_w 74, 3) := by decide +kernel
theorem d_M_init_187 : decode b_M_init 187 = .ok (.lcmp, 1) := by decide +kernel
theorem d_M_init_188 : decode b_M_init 188 = .ok (.ifCond .le 9, 3) := by decide +kernel
theorem d_M_init_191 : decode b_M_init 191 = .ok (.ldc2_w 74, 3) := by decide +kernel
theorem d_M_init_194 : decode b_M_init 194 = .ok (.goto 4, 3) := by decide +kernel
theorem d_M_init_197 : decode b_M_init 197 = .ok (.lload_n 1, 1) := by decide +kernel
theorem d_M_init_198 : decode b_M_init 198 = .ok (.putfield 76, 3) := by decide +kernel
theorem d_M_init_201 : decode b_M_init 201 = .ok (.return_, 1) := by decide +kernel
abbrev rm_M_init : Room := { frames := 1, cells := 21, slots := 8938, locals := 20 }
theorem ce_M_init : gCe y_M_init (.code y_M_init b_M_init 3 none) 3 1 false := gCe.code wd_783 wd_57 wd_782 (by decide) (by decide +kernel)
def f_M_init (g0 : Nat) (a0 : Nat) (p1 : Int64) (w : gW) : gX Unit := gb2f (gna w 0 30 30 (.int 0)) fun o1 w => (gp w a0 7 3 (.ref o1)).bind fun w => gb2f (gna w 0 360 360 (.int 0)) fun o4 w => (gp w a0 7 4 (.ref o4)).bind fun w => gb2f (gna w 1 2160 2160 (.long 0)) fun o7 w => (gp w a0 7 5 (.ref o7)).bind fun w => gb2f (gna w 0 360 360 (.int 0)) fun o10 w => (gp w a0 7 6 (.ref o10)).bind fun w => gb2f (gna w 1 2880 2880 (.long 0)) fun o13 w => (gp w a0 7 7 (.ref o13)).bind fun w => gb2f (gna w 1 2880 2880 (.long 0)) fun o16 w => (gp w a0 7 8 (.ref o16)).bind fun w => gb2f (gna w 1 8 8 (.long 0)) fun o19 w => (gp w a0 7 10 (.ref o19)).bind fun w => gb2f (gna w 1 8 8 (.long 0)) fun o22 w => (gp w a0 7 11 (.ref o22)).bind fun w => gb2f (gna w 0 30 30 (.int 0)) fun o25 w => (gp w a0 7 13 (.ref o25)).bind fun w => gb2f (gna w 1 30 30 (.long 0)) fun o28 w => (gp w a0 7 14 (.ref o28)).bind fun w => gb2f (gna w 1 30 30 (.long 0)) fun o31 w => (gp w a0 7 15 (.ref o31)).bind fun w => gb2f (gna w 0 30 30 (.int 0)) fun o34 w => (gp w a0 7 16 (.ref o34)).bind fun w => gb2f (gna w 0 30 30 (.int 0)) fun o37 w => (gp w a0 7 17 (.ref o37)).bind fun w => gb2f (gna w 1 60 60 (.long 0)) fun o40 w => (gp w a0 7 19 (.ref o40)).bind fun w => gb2f (gna w 0 2 2 (.int 0)) fun o43 w => (gp w a0 7 20 (.ref o43)).bind fun w => gb2f (gna w 0 2 2 (.int 0)) fun o46 w => (gp w a0 7 21 (.ref o46)).bind fun w => gb2f (gna w 1 16 16 (.long 0)) fun o49 w => (gp w a0 7 22 (.ref o49)).bind fun w => gb2f (gna w 1 16 16 (.long 0)) fun o52 w => (gp w a0 7 23 (.ref o52)).bind fun w => gb2f (gna w 1 2 2 (.long 0)) fun o55 w => (gp w a0 7 24 (.ref o55)).bind fun w => gb2f (gna w 1 2 2 (.long 0)) fun o58 w => (gp w a0 7 25 (.ref o58)).bind fun w => gb2f (gna w 1 2 2 (.long 0)) fun o61 w => (gp w a0 7 26 (.ref o61)).bind fun w => gjoin (fun K198 => if 0 ≤ p1 then (if p1 ≤ 1000 then (K198 p1 w) else (K198 1000 w)) else (K198 0 w)) (fun (y64 : Int64) (w : gW) => (gp w a0 7 1 (.long y64)).bind fun w => some (.inr (), w))
set_option maxHeartbeats 4000000 in
set_option maxRecDepth 100000 in
theorem m_M_init (l : Launch) (D : gD) (g0 : Nat) (a0 : Nat) (p1 : Int64) (w : gW) (r : (String ⊕ Unit) × gW) (h : f_M_init g0 a0 p1 w = some r) : gMet l y_M_init (.code y_M_init b_M_init 3 none) rm_M_init D g0 [.ref a0, .long p1] w (goV r) := by
  refine gw_ofV (by decide +kernel) (Nat.le_of_ble_eq_true rfl) ?_
  intro p e s m below meth c ls args A Q hx hb hml hown hlocks hin hnt hT hK hZ hA hret hexc hI hl
  obtain ⟨H, hH⟩ : ∃ H, H = s.heap := ⟨_, rfl⟩
  rw [← hH] at hI ⊢
  obtain ⟨locs, hlocs⟩ : ∃ z : List Loc, z = [] := ⟨_, rfl⟩
  rw [← hlocs] at hI ⊢
  have hl : lv_has ls 3 [(0, .ref a0), (1, .long p1)] := hl
  unfold f_M_init at h
  refine lv_aload_n hx hb d_M_init_0 rfl (lv_at hl 0 rfl) ?_
  refine W.objInit hx hb hown (hT _ wd_784 args) (hT _ wd_78 args) (hT _ wd_79 args) rfl (by rw [hml]; exact hl.1) rfl d_M_init_1 (Nat.le_of_ble_eq_true rfl) (Nat.le_of_ble_eq_true rfl) ?_
  refine W.eq (g2 := F0 m 4 ls []) rfl ?_
  refine lv_aload_n hx hb d_M_init_4 rfl (lv_at hl 0 rfl) ?_
  refine lv_bipush (v := 30) hx hb d_M_init_5 (by decide) ?_
  obtain ⟨o1, w, e2, h⟩ := gb2 h
  refine gw_newa (atype := .int) (ty := .int) (M := 30) hx hb hK hI hA (hT _ wd_179 args) rfl (k := 0) rfl (fun h9 => h9) e2 (show 0 + 1 ≤ 21 by omega) (show 0 + 30 ≤ 8938 by omega) (show 30 * 4 ≤ 536870912 by omega) d_M_init_7 (fun H hI => ?_)
  refine W.widen (k := 1) (n := 30) (by omega) (by omega) ?_
  obtain ⟨w, e3, h⟩ := gb h
  refine gw_putF hx hb hT hown hK hI (ci := 7) rfl i_7 t_7 t_7_ok n_7 3 (by decide) wd_789 (fun _ h9 => h9) rfl hin rfl (ty := .array .int) (by decide +kernel) rfl rfl e3 d_M_init_9 (fun H locs hI => ?_)
  refine lv_aload_n hx hb d_M_init_12 rfl (lv_at hl 0 rfl) ?_
  refine lv_sipush (v := 360) hx hb d_M_init_13 (by decide) ?_
  obtain ⟨o4, w, e5, h⟩ := gb2 h
  refine gw_newa (atype := .int) (ty := .int) (M := 360) hx hb hK hI hA (hT _ wd_179 args) rfl (k := 0) rfl (fun h9 => h9) e5 (show 1 + 1 ≤ 21 by omega) (show 30 + 360 ≤ 8938 by omega) (show 360 * 4 ≤ 536870912 by omega) d_M_init_16 (fun H hI => ?_)
  refine W.widen (k := 2) (n := 390) (by omega) (by omega) ?_
  obtain ⟨w, e6, h⟩ := gb h
  refine gw_putF hx hb hT hown hK hI (ci := 7) rfl i_7 t_7 t_7_ok n_7 4 (by decide) wd_790 (fun _ h9 => h9) rfl hin rfl (ty := .array .int) (by decide +kernel) rfl rfl e6 d_M_init_18 (fun H locs hI => ?_)
  refine lv_aload_n hx hb d_M_init_21 rfl (lv_at hl 0 rfl) ?_
  refine lv_sipush (v := 2160) hx hb d_M_init_22 (by decide) ?_
  obtain ⟨o7, w, e8, h⟩ := gb2 h
  refine gw_newa (atype := .long) (ty := .long) (M := 2160) hx hb hK hI hA (hT _ wd_178 args) rfl (k := 1) rfl (fun h9 => h9) e8 (show 2 + 1 ≤ 21 by omega) (show 390 + 2160 ≤ 8938 by omega) (show 2160 * 8 ≤ 536870912 by omega) d_M_init_25 (fun H hI => ?_)
  refine W.widen (k := 3) (n := 2550) (by omega) (by omega) ?_
  obtain ⟨w, e9, h⟩ := gb h
  refine gw_putF hx hb hT hown hK hI (ci := 7) rfl i_7 t_7 t_7_ok n_7 5 (by decide) wd_791 (fun _ h9 => h9) rfl hin rfl (ty := .array .long) (by decide +kernel) rfl rfl e9 d_M_init_27 (fun H locs hI => ?_)
  refine lv_aload_n hx hb d_M_init_30 rfl (lv_at hl 0 rfl) ?_
  refine lv_sipush (v := 360) hx hb d_M_init_31 (by decide) ?_
  obtain ⟨o10, w, e11, h⟩ := gb2 h
  refine gw_newa (atype := .int) (ty := .int) (M := 360) hx hb hK hI hA (hT _ wd_179 args) rfl (k := 0) rfl (fun h9 => h9) e11 (show 3 + 1 ≤ 21 by omega) (show 2550 + 360 ≤ 8938 by omega) (show 360 * 4 ≤ 536870912 by omega) d_M_init_34 (fun H hI => ?_)
  refine W.widen (k := 4) (n := 2910) (by omega) (by omega) ?_
  obtain ⟨w, e12, h⟩ := gb h
  refine gw_putF hx hb hT hown hK hI (ci := 7) rfl i_7 t_7 t_7_ok n_7 6 (by decide) wd_792 (fun _ h9 => h9) rfl hin rfl (ty := .array .int) (by decide +kernel) rfl rfl e12 d_M_init_36 (fun H locs hI => ?_)
  refine lv_aload_n hx hb d_M_init_39 rfl (lv_at hl 0 rfl) ?_
  refine lv_sipush (v := 2880) hx hb d_M_init_40 (by decide) ?_
  obtain ⟨o13, w, e14, h⟩ := gb2 h
  refine gw_newa (atype := .long) (ty := .long) (M := 2880) hx hb hK hI hA (hT _ wd_178 args) rfl (k := 1) rfl (fun h9 => h9) e14 (show 4 + 1 ≤ 21 by omega) (show 2910 + 2880 ≤ 8938 by omega) (show 2880 * 8 ≤ 536870912 by omega) d_M_init_43 (fun H hI => ?_)
  refine W.widen (k := 5) (n := 5790) (by omega) (by omega) ?_
  obtain ⟨w, e15, h⟩ := gb h
  refine gw_putF hx hb hT hown hK hI (ci := 7) rfl i_7 t_7 t_7_ok n_7 7 (by decide) wd_793 (fun _ h9 => h9) rfl hin rfl (ty := .array .long) (by decide +kernel) rfl rfl e15 d_M_init_45 (fun H locs hI => ?_)
  refine lv_aload_n hx hb d_M_init_48 rfl (lv_at hl 0 rfl) ?_
  refine lv_sipush (v := 2880) hx hb d_M_init_49 (by decide) ?_
  obtain ⟨o16, w, e17, h⟩ := gb2 h
  refine gw_newa (atype := .long) (ty := .long) (M := 2880) hx hb hK hI hA (hT _ wd_178 args) rfl (k := 1) rfl (fun h9 => h9) e17 (show 5 + 1 ≤ 21 by omega) (show 5790 + 2880 ≤ 8938 by omega) (show 2880 * 8 ≤ 536870912 by omega) d_M_init_52 (fun H hI => ?_)
  refine W.widen (k := 6) (n := 8670) (by omega) (by omega) ?_
  obtain ⟨w, e18, h⟩ := gb h
  refine gw_putF hx hb hT hown hK hI (ci := 7) rfl i_7 t_7 t_7_ok n_7 8 (by decide) wd_794 (fun _ h9 => h9) rfl hin rfl (ty := .array .long) (by decide +kernel) rfl rfl e18 d_M_init_54 (fun H locs hI => ?_)
  refine lv_aload_n hx hb d_M_init_57 rfl (lv_at hl 0 rfl) ?_
  refine lv_bipush (v := 8) hx hb d_M_init_58 (by decide) ?_
  obtain ⟨o19, w, e20, h⟩ := gb2 h
  refine gw_newa (atype := .long) (ty := .long) (M := 8) hx hb hK hI hA (hT _ wd_178 args) rfl (k := 1) rfl (fun h9 => h9) e20 (show 6 + 1 ≤ 21 by omega) (show 8670 + 8 ≤ 8938 by omega) (show 8 * 8 ≤ 536870912 by omega) d_M_init_60 (fun H hI => ?_)
  refine W.widen (k := 7) (n := 8678) (by omega) (by omega) ?_
  obtain ⟨w, e21, h⟩ := gb h
  refine gw_putF hx hb hT hown hK hI (ci := 7) rfl i_7 t_7 t_7_ok n_7 10 (by decide) wd_796 (fun _ h9 => h9) rfl hin rfl (ty := .array .long) (by decide +kernel) rfl rfl e21 d_M_init_62 (fun H locs hI => ?_)
  refine lv_aload_n hx hb d_M_init_65 rfl (lv_at hl 0 rfl) ?_
  refine lv_bipush (v := 8) hx hb d_M_init_66 (by decide) ?_
  obtain ⟨o22, w, e23, h⟩ := gb2 h
  refine gw_newa (atype := .long) (ty := .long) (M := 8) hx hb hK hI hA (hT _ wd_178 args) rfl (k := 1) rfl (fun h9 => h9) e23 (show 7 + 1 ≤ 21 by omega) (show 8678 + 8 ≤ 8938 by omega) (show 8 * 8 ≤ 536870912 by omega) d_M_init_68 (fun H hI => ?_)
  refine W.widen (k := 8) (n := 8686) (by omega) (by omega) ?_
  obtain ⟨w, e24, h⟩ := gb h
  refine gw_putF hx hb hT hown hK hI (ci := 7) rfl i_7 t_7 t_7_ok n_7 11 (by decide) wd_797 (fun _ h9 => h9) rfl hin rfl (ty := .array .long) (by decide +kernel) rfl rfl e24 d_M_init_70 (fun H locs hI => ?_)
  refine lv_aload_n hx hb d_M_init_73 rfl (lv_at hl 0 rfl) ?_
  refine lv_bipush (v := 30) hx hb d_M_init_74 (by decide) ?_
  obtain ⟨o25, w, e26, h⟩ := gb2 h
  refine gw_newa (atype := .int) (ty := .int) (M := 30) hx hb hK hI hA (hT _ wd_179 args) rfl (k := 0) rfl (fun h9 => h9) e26 (show 8 + 1 ≤ 21 by omega) (show 8686 + 30 ≤ 8938 by omega) (show 30 * 4 ≤ 536870912 by omega) d_M_init_76 (fun H hI => ?_)
  refine W.widen (k := 9) (n := 8716) (by omega) (by omega) ?_
  obtain ⟨w, e27, h⟩ := gb h
  refine gw_putF hx hb hT hown hK hI (ci := 7) rfl i_7 t_7 t_7_ok n_7 13 (by decide) wd_799 (fun _ h9 => h9) rfl hin rfl (ty := .array .int) (by decide +kernel) rfl rfl e27 d_M_init_78 (fun H locs hI => ?_)
  refine lv_aload_n hx hb d_M_init_81 rfl (lv_at hl 0 rfl) ?_
  refine lv_bipush (v := 30) hx hb d_M_init_82 (by decide) ?_
  obtain ⟨o28, w, e29, h⟩ := gb2 h
  refine gw_newa (atype := .long) (ty := .long) (M := 30) hx hb hK hI hA (hT _ wd_178 args) rfl (k := 1) rfl (fun h9 => h9) e29 (show 9 + 1 ≤ 21 by omega) (show 8716 + 30 ≤ 8938 by omega) (show 30 * 8 ≤ 536870912 by omega) d_M_init_84 (fun H hI => ?_)
  refine W.widen (k := 10) (n := 8746) (by omega) (by omega) ?_
  obtain ⟨w, e30, h⟩ := gb h
  refine gw_putF hx hb hT hown hK hI (ci := 7) rfl i_7 t_7 t_7_ok n_7 14 (by decide) wd_800 (fun _ h9 => h9) rfl hin rfl (ty := .array .long) (by decide +kernel) rfl rfl e30 d_M_init_86 (fun H locs hI => ?_)
  refine lv_aload_n hx hb d_M_init_89 rfl (lv_at hl 0 rfl) ?_
  refine lv_bipush (v := 30) hx hb d_M_init_90 (by decide) ?_
  obtain ⟨o31, w, e32, h⟩ := gb2 h
  refine gw_newa (atype := .long) (ty := .long) (M := 30) hx hb hK hI hA (hT _ wd_178 args) rfl (k := 1) rfl (fun h9 => h9) e32 (show 10 + 1 ≤ 21 by omega) (show 8746 + 30 ≤ 8938 by omega) (show 30 * 8 ≤ 536870912 by omega) d_M_init_92 (fun H hI => ?_)
  refine W.widen (k := 11) (n := 8776) (by omega) (by omega) ?_
  obtain ⟨w, e33, h⟩ := gb h
  refine gw_putF hx hb hT hown hK hI (ci := 7) rfl i_7 t_7 t_7_ok n_7 15 (by decide) wd_801 (fun _ h9 => h9) rfl hin rfl (ty := .array .long) (by decide +kernel) rfl rfl e33 d_M_init_94 (fun H locs hI => ?_)
  refine lv_aload_n hx hb d_M_init_97 rfl (lv_at hl 0 rfl) ?_
  refine lv_bipush (v := 30) hx hb d_M_init_98 (by decide) ?_
  obtain ⟨o34, w, e35, h⟩ := gb2 h
  refine gw_newa (atype := .int) (ty := .int) (M := 30) hx hb hK hI hA (hT _ wd_179 args) rfl (k := 0) rfl (fun h9 => h9) e35 (show 11 + 1 ≤ 21 by omega) (show 8776 + 30 ≤ 8938 by omega) (show 30 * 4 ≤ 536870912 by omega) d_M_init_100 (fun H hI => ?_)
  refine W.widen (k := 12) (n := 8806) (by omega) (by omega) ?_
  obtain ⟨w, e36, h⟩ := gb h
  refine gw_putF hx hb hT hown hK hI (ci := 7) rfl i_7 t_7 t_7_ok n_7 16 (by decide) wd_802 (fun _ h9 => h9) rfl hin rfl (ty := .array .int) (by decide +kernel) rfl rfl e36 d_M_init_102 (fun H locs hI => ?_)
  refine lv_aload_n hx hb d_M_init_105 rfl (lv_at hl 0 rfl) ?_
  refine lv_bipush (v := 30) hx hb d_M_init_106 (by decide) ?_
  obtain ⟨o37, w, e38, h⟩ := gb2 h
  refine gw_newa (atype := .int) (ty := .int) (M := 30) hx hb hK hI hA (hT _ wd_179 args) rfl (k := 0) rfl (fun h9 => h9) e38 (show 12 + 1 ≤ 21 by omega) (show 8806 + 30 ≤ 8938 by omega) (show 30 * 4 ≤ 536870912 by omega) d_M_init_108 (fun H hI => ?_)
  refine W.widen (k := 13) (n := 8836) (by omega) (by omega) ?_
  obtain ⟨w, e39, h⟩ := gb h
  refine gw_putF hx hb hT hown hK hI (ci := 7) rfl i_7 t_7 t_7_ok n_7 17 (by decide) wd_803 (fun _ h9 => h9) rfl hin rfl (ty := .array .int) (by decide +kernel) rfl rfl e39 d_M_init_110 (fun H locs hI => ?_)
  refine lv_aload_n hx hb d_M_init_113 rfl (lv_at hl 0 rfl) ?_
  refine lv_bipush (v := 60) hx hb d_M_init_114 (by decide) ?_
  obtain ⟨o40, w, e41, h⟩ := gb2 h
  refine gw_newa (atype := .long) (ty := .long) (M := 60) hx hb hK hI hA (hT _ wd_178 args) rfl (k := 1) rfl (fun h9 => h9) e41 (show 13 + 1 ≤ 21 by omega) (show 8836 + 60 ≤ 8938 by omega) (show 60 * 8 ≤ 536870912 by omega) d_M_init_116 (fun H hI => ?_)
  refine W.widen (k := 14) (n := 8896) (by omega) (by omega) ?_
  obtain ⟨w, e42, h⟩ := gb h
  refine gw_putF hx hb hT hown hK hI (ci := 7) rfl i_7 t_7 t_7_ok n_7 19 (by decide) wd_805 (fun _ h9 => h9) rfl hin rfl (ty := .array .long) (by decide +kernel) rfl rfl e42 d_M_init_118 (fun H locs hI => ?_)
  refine lv_aload_n hx hb d_M_init_121 rfl (lv_at hl 0 rfl) ?_
  refine lv_iconst (v := 2) hx hb d_M_init_122 (by decide) ?_
  obtain ⟨o43, w, e44, h⟩ := gb2 h
  refine gw_newa (atype := .int) (ty := .int) (M := 2) hx hb hK hI hA (hT _ wd_179 args) rfl (k := 0) rfl (fun h9 => h9) e44 (show 14 + 1 ≤ 21 by omega) (show 8896 + 2 ≤ 8938 by omega) (show 2 * 4 ≤ 536870912 by omega) d_M_init_123 (fun H hI => ?_)
  refine W.widen (k := 15) (n := 8898) (by omega) (by omega) ?_
  obtain ⟨w, e45, h⟩ := gb h
  refine gw_putF hx hb hT hown hK hI (ci := 7) rfl i_7 t_7 t_7_ok n_7 20 (by decide) wd_806 (fun _ h9 => h9) rfl hin rfl (ty := .array .int) (by decide +kernel) rfl rfl e45 d_M_init_125 (fun H locs hI => ?_)
  refine lv_aload_n hx hb d_M_init_128 rfl (lv_at hl 0 rfl) ?_
  refine lv_iconst (v := 2) hx hb d_M_init_129 (by decide) ?_
  obtain ⟨o46, w, e47, h⟩ := gb2 h
  refine gw_newa (atype := .int) (ty := .int) (M := 2) hx hb hK hI hA (hT _ wd_179 args) rfl (k := 0) rfl (fun h9 => h9) e47 (show 15 + 1 ≤ 21 by omega) (show 8898 + 2 ≤ 8938 by omega) (show 2 * 4 ≤ 536870912 by omega) d_M_init_130 (fun H hI => ?_)
  refine W.widen (k := 16) (n := 8900) (by omega) (by omega) ?_
  obtain ⟨w, e48, h⟩ := gb h
  refine gw_putF hx hb hT hown hK hI (ci := 7) rfl i_7 t_7 t_7_ok n_7 21 (by decide) wd_807 (fun _ h9 => h9) rfl hin rfl (ty := .array .int) (by decide +kernel) rfl rfl e48 d_M_init_132 (fun H locs hI => ?_)
  refine lv_aload_n hx hb d_M_init_135 rfl (lv_at hl 0 rfl) ?_
  refine lv_bipush (v := 16) hx hb d_M_init_136 (by decide) ?_
  obtain ⟨o49, w, e50, h⟩ := gb2 h
  refine gw_newa (atype := .long) (ty := .long) (M := 16) hx hb hK hI hA (hT _ wd_178 args) rfl (k := 1) rfl (fun h9 => h9) e50 (show 16 + 1 ≤ 21 by omega) (show 8900 + 16 ≤ 8938 by omega) (show 16 * 8 ≤ 536870912 by omega) d_M_init_138 (fun H hI => ?_)
  refine W.widen (k := 17) (n := 8916) (by omega) (by omega) ?_
  obtain ⟨w, e51, h⟩ := gb h
  refine gw_putF hx hb hT hown hK hI (ci := 7) rfl i_7 t_7 t_7_ok n_7 22 (by decide) wd_808 (fun _ h9 => h9) rfl hin rfl (ty := .array .long) (by decide +kernel) rfl rfl e51 d_M_init_140 (fun H locs hI => ?_)
  refine lv_aload_n hx hb d_M_init_143 rfl (lv_at hl 0 rfl) ?_
  refine lv_bipush (v := 16) hx hb d_M_init_144 (by decide) ?_
  obtain ⟨o52, w, e53, h⟩ := gb2 h
  refine gw_newa (atype := .long) (ty := .long) (M := 16) hx hb hK hI hA (hT _ wd_178 args) rfl (k := 1) rfl (fun h9 => h9) e53 (show 17 + 1 ≤ 21 by omega) (show 8916 + 16 ≤ 8938 by omega) (show 16 * 8 ≤ 536870912 by omega) d_M_init_146 (fun H hI => ?_)
  refine W.widen (k := 18) (n := 8932) (by omega) (by omega) ?_
  obtain ⟨w, e54, h⟩ := gb h
  refine gw_putF hx hb hT hown hK hI (ci := 7) rfl i_7 t_7 t_7_ok n_7 23 (by decide) wd_809 (fun _ h9 => h9) rfl hin rfl (ty := .array .long) (by decide +kernel) rfl rfl e54 d_M_init_148 (fun H locs hI => ?_)
  refine lv_aload_n hx hb d_M_init_151 rfl (lv_at hl 0 rfl) ?_
  refine lv_iconst (v := 2) hx hb d_M_init_152 (by decide) ?_
  obtain ⟨o55, w, e56, h⟩ := gb2 h
  refine gw_newa (atype := .long) (ty := .long) (M := 2) hx hb hK hI hA (hT _ wd_178 args) rfl (k := 1) rfl (fun h9 => h9) e56 (show 18 + 1 ≤ 21 by omega) (show 8932 + 2 ≤ 8938 by omega) (show 2 * 8 ≤ 536870912 by omega) d_M_init_153 (fun H hI => ?_)
  refine W.widen (k := 19) (n := 8934) (by omega) (by omega) ?_
  obtain ⟨w, e57, h⟩ := gb h
  refine gw_putF hx hb hT hown hK hI (ci := 7) rfl i_7 t_7 t_7_ok n_7 24 (by decide) wd_810 (fun _ h9 => h9) rfl hin rfl (ty := .array .long) (by decide +kernel) rfl rfl e57 d_M_init_155 (fun H locs hI => ?_)
  refine lv_aload_n hx hb d_M_init_158 rfl (lv_at hl 0 rfl) ?_
  refine lv_iconst (v := 2) hx hb d_M_init_159 (by decide) ?_
  obtain ⟨o58, w, e59, h⟩ := gb2 h
  refine gw_newa (atype := .long) (ty := .long) (M := 2) hx hb hK hI hA (hT _ wd_178 args) rfl (k := 1) rfl (fun h9 => h9) e59 (show 19 + 1 ≤ 21 by omega) (show 8934 + 2 ≤ 8938 by omega) (show 2 * 8 ≤ 536870912 by omega) d_M_init_160 (fun H hI => ?_)
  refine W.widen (k := 20) (n := 8936) (by omega) (by omega) ?_
  obtain ⟨w, e60, h⟩ := gb h
  refine gw_putF hx hb hT hown hK hI (ci := 7) rfl i_7 t_7 t_7_ok n_7 25 (by decide) wd_811 (fun _ h9 => h9) rfl hin rfl (ty := .array .long) (by decide +kernel) rfl rfl e60 d_M_init_162 (fun H locs hI => ?_)
  refine lv_aload_n hx hb d_M_init_165 rfl (lv_at hl 0 rfl) ?_
  refine lv_iconst (v := 2) hx hb d_M_init_166 (by decide) ?_
  obtain ⟨o61, w, e62, h⟩ := gb2 h
  refine gw_newa (atype := .long) (ty := .long) (M := 2) hx hb hK hI hA (hT _ wd_178 args) rfl (k := 1) rfl (fun h9 => h9) e62 (show 20 + 1 ≤ 21 by omega) (show 8936 + 2 ≤ 8938 by omega) (show 2 * 8 ≤ 536870912 by omega) d_M_init_167 (fun H hI => ?_)
  refine W.widen (k := 21) (n := 8938) (by omega) (by omega) ?_
  obtain ⟨w, e63, h⟩ := gb h
  refine gw_putF hx hb hT hown hK hI (ci := 7) rfl i_7 t_7 t_7_ok n_7 26 (by decide) wd_812 (fun _ h9 => h9) rfl hin rfl (ty := .array .long) (by decide +kernel) rfl rfl e63 d_M_init_169 (fun H locs hI => ?_)
  refine lv_aload_n hx hb d_M_init_172 rfl (lv_at hl 0 rfl) ?_
  refine lv_lload_n hx hb d_M_init_173 rfl (lv_at hl 1 rfl) ?_
  refine lv_lconst (v := 0) hx hb d_M_init_174 (by decide) ?_
  refine W.lcmp hx hb d_M_init_175 ?_
  obtain ⟨K198, eK198, h⟩ := gj h
  have hK198 : ∀ (y64 : Int64) (w : gW) (H : Heap) (locs : List Loc) (ls : Array Slot), K198 y64 w = some r → gI D s A w H locs → lv_has ls 3 [] → W p l e rm_M_init s m args below meth c H locs 21 8938 Q (F0 m 198 ls [.long y64, .ref a0]) := by
    intro y64 w H locs ls h hI hl
    have h := gk2 eK198 h
    obtain ⟨w, e65, h⟩ := gb h
    refine gw_putF hx hb hT hown hK hI (ci := 7) rfl i_7 t_7 t_7_ok n_7 1 (by decide) wd_787 (fun _ h9 => h9) rfl hin rfl (ty := .long) (by decide +kernel) rfl rfl e65 d_M_init_198 (fun H locs hI => ?_)
    exact W.widen (show 21 ≤ 21 by omega) (show 8938 ≤ 8938 by omega) (hret _ _ (Option.some.inj h).symm _ _ _ _ d_M_init_201 hI)
  refine lv_if_ge (tgt := 183) hx hb d_M_init_176 (by decide) (fun c66 => ?_) (fun c66 => ?_)
  · have c66 := (lg_cmp_ge _ _).mp c66
    have h := git c66 h
    refine lv_lload_n hx hb d_M_init_183 rfl (lv_at hl 1 rfl) ?_
    refine lv_ldc2 (v := 1000) hx hb hown (hT _ wd_785 args) d_M_init_184 ?_
    refine W.lcmp hx hb d_M_init_187 ?_
    refine lv_if_le (tgt := 197) hx hb d_M_init_188 (by decide) (fun c67 => ?_) (fun c67 => ?_)
    · have c67 := (lg_cmp_le _ _).mp c67
      have h := git c67 h
      refine lv_lload_n hx hb d_M_init_197 rfl (lv_at hl 1 rfl) ?_
      exact hK198 _ w H locs ls h hI (lv_sub hl [] rfl)
    · have c67 := mt (lg_cmp_le _ _).mpr c67
      have h := gie c67 h
      refine lv_ldc2 (v := 1000) hx hb hown (hT _ wd_785 args) d_M_init_191 ?_
      refine lv_goto (tgt := 198) hx hb d_M_init_194 (by decide) ?_
      exact hK198 _ w H locs ls h hI (lv_sub hl [] rfl)
  · have c66 := mt (lg_cmp_ge _ _).mpr c66
    have h := gie c66 h
    refine lv_lconst (v := 0) hx hb d_M_init_179 (by decide) ?_
    refine lv_goto (tgt := 198) hx hb d_M_init_180 (by decide) ?_
    exact hK198 _ w H locs ls h hI (lv_sub hl [] rfl)
