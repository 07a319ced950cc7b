abbrev b_Me_sideDistance : ByteArray := prog_5_method_11_code
def y_Me_sideDistance : MethodName := ⟨"BodySolids$Meeting", "sideDistance", "(LBodySolids$Solid;ILBodySolids$Solid;J)I"⟩
theorem d_Me_sideDistance_0 : decode b_Me_sideDistance 0 = .ok (.iload_n 1, 1) := by decide +kernel
theorem d_Me_sideDistance_1 : decode b_Me_sideDistance 1 = .ok (.iconst 1, 1) := by decide +kernel
theorem d_Me_sideDistance_2 : decode b_Me_sideDistance 2 = .ok (.iadd, 1) := by decide +kernel
theorem d_Me_sideDistance_3 : decode b_Me_sideDistance 3 = .ok (.aload_n 0, 1) := by decide +kernel
theorem d_Me_sideDistance_4 : decode b_Me_sideDistance 4 = .ok (.getfield 78, 3) := by decide +kernel
theorem d_Me_sideDistance_7 : decode b_Me_sideDistance 7 = .ok (.if_icmp .ge 9, 3) := by decide +kernel
theorem d_Me_sideDistance_10 : decode b_Me_sideDistance 10 = .ok (.iload_n 1, 1) := by decide +kernel
theorem d_Me_sideDistance_11 : decode b_Me_sideDistance 11 = .ok (.iconst 1, 1) := by decide +kernel
theorem d_Me_sideDistance_12 : decode b_Me_sideDistance 12 = .ok (.iadd, 1) := by decide +kernel
theorem d_Me_sideDistance_13 : decode b_Me_sideDistance 13 = .ok (.goto 4, 3) := by decide +kernel
theorem d_Me_sideDistance_16 : decode b_Me_sideDistance 16 = .ok (.iconst 0, 1) := by decide +kernel
theorem d_Me_sideDistance_17 : decode b_Me_sideDistance 17 = .ok (.istore 5, 2) := by decide +kernel
theorem d_Me_sideDistance_19 : decode b_Me_sideDistance 19 = .ok (.aload_n 0, 1) := by decide +kernel
theorem d_Me_sideDistance_20 : decode b_Me_sideDistance 20 = .ok (.getfield 81, 3) := by decide +kernel
theorem d_Me_sideDistance_23 : decode b_Me_sideDistance 23 = .ok (.iload 5, 2) := by decide +kernel
theorem d_Me_sideDistance_25 : decode b_Me_sideDistance 25 = .ok (.laload, 1) := by decide +kernel
theorem d_Me_sideDistance_26 : decode b_Me_sideDistance 26 = .ok (.aload_n 0, 1) := by decide +kernel
theorem d_Me_sideDistance_27 : decode b_Me_sideDistance 27 = .ok (.getfield 81, 3) := by decide +kernel
theorem d_Me_sideDistance_30 : decode b_Me_sideDistance 30 = .ok (.iload_n 1, 1) := by decide +kernel
theorem d_Me_sideDistance_31 : decode b_Me_sideDistance 31 = .ok (.laload, 1) := by decide +kernel
theorem d_Me_sideDistance_32 : decode b_Me_sideDistance 32 = .ok (.lsub, 1) := by decide +kernel
theorem d_Me_sideDistance_33 : decode b_Me_sideDistance 33 = .ok (.lstore 6, 2) := by decide +kernel
theorem d_Me_sideDistance_35 : decode b_Me_sideDistance 35 = .ok (.aload_n 0, 1) := by decide +kernel
theorem d_Me_sideDistance_36 : decode b_Me_sideDistance 36 = .ok (.getfield 85, 3) := by decide +kernel
theorem d_Me_sideDistance_39 : decode b_Me_sideDistance 39 = .ok (.iload 5, 2) := by decide +kernel
theorem d_Me_sideDistance_41 : decode b_Me_sideDistance 41 = .ok (.laload, 1) := by decide +kernel
theorem d_Me_sideDistance_42 : decode b_Me_sideDistance 42 = .ok (.aload_n 0, 1) := by decide +kernel
theorem d_Me_sideDistance_43 : decode b_Me_sideDistance 43 = .ok (.getfield 85, 3) := by decide +kernel
theorem d_Me_sideDistance_46 : decode b_Me_sideDistance 46 = .ok (.iload_n 1, 1) := by decide +kernel
theorem d_Me_sideDistance_47 : decode b_Me_sideDistance 47 = .ok (.laload, 1) := by decide +kernel
theorem d_Me_sideDistance_48 : decode b_Me_sideDistance 48 = .ok (.lsub, 1) := by decide +kernel
theorem d_Me_sideDistance_49 : decode b_Me_sideDistance 49 = .ok (.lstore 8, 2) := by decide +kernel
theorem d_Me_sideDistance_51 : decode b_Me_sideDistance 51 = .ok (.lload 6, 2) := by decide +kernel
theorem d_Me_sideDistance_53 : decode b_Me_sideDistance 53 = .ok (.lload 6, 2) := by decide +kernel
theorem d_Me_sideDistance_55 : decode b_Me_sideDistance 55 = .ok (.lmul, 1) := by decide +kernel
theorem d_Me_sideDistance_56 : decode b_Me_sideDistance 56 = .ok (.lload 8, 2) := by decide +kernel
theorem d_Me_sideDistance_58 : decode b_Me_sideDistance 58 = .ok (.lload 8, 2) := by decide +kernel
theorem d_Me_sideDistance_60 : decode b_Me_sideDistance 60 = .ok (.lmul, 1) := by decide +kernel
theorem d_Me_sideDistance_61 : decode b_Me_sideDistance 61 = .ok (.ladd, 1) := by decide +kernel
theorem d_Me_sideDistance_62 : decode b_Me_sideDistance 62 = .ok (.lstore 10, 2) := by decide +kernel
theorem d_Me_sideDistance_64 : decode b_Me_sideDistance 64 = .ok (.iconst 1, 1) := by decide +kernel
theorem d_Me_sideDistance_65 : decode b_Me_sideDistance 65 = .ok (.istore 12, 2) := by decide +kernel
theorem d_Me_sideDistance_67 : decode b_Me_sideDistance 67 = .ok (.iconst 0, 1) := by decide +kernel
theorem d_Me_sideDistance_68 : decode b_Me_sideDistance 68 = .ok (.istore 13, 2) := by decide +kernel
theorem d_Me_sideDistance_70 : decode b_Me_sideDistance 70 = .ok (.iload 13, 2) := by decide +kernel
theorem d_Me_sideDistance_72 : decode b_Me_sideDistance 72 = .ok (.aload_n 2, 1) := by decide +kernel
theorem d_Me_sideDistance_73 : decode b_Me_sideDistance 73 = .ok (.getfield 78, 3) := by decide +kernel
theorem d_Me_sideDistance_76 : decode b_Me_sideDistance 76 = .ok (.if_icmp .ge 102, 3) := by decide +kernel
theorem d_Me_sideDistance_79 : decode b_Me_sideDistance 79 = .ok (.aload_n 2, 1) := by decide +kernel
theorem d_Me_sideDistance_80 : decode b_Me_sideDistance 80 = .ok (.getfield 81, 3) := by decide +kernel
theorem d_Me_sideDistance_83 : decode b_Me_sideDistance 83 = .ok (.iload 13, 2) := by decide +kernel
theorem d_Me_sideDistance_85 : decode b_Me_sideDistance 85 = .ok (.laload, 1) := by decide +kernel
theorem d_Me_sideDistance_86 : decode b_Me_sideDistance 86 = .ok (.aload_n 0, 1) := by decide +kernel
theorem d_Me_sideDistance_87 : decode b_Me_sideDistance 87 = .ok (.getfield 81, 3) := by decide +kernel
theorem d_Me_sideDistance_90 : decode b_Me_sideDistance 90 = .ok (.iload_n 1, 1) := by decide +kernel
theorem d_Me_sideDistance_91 : decode b_Me_sideDistance 91 = .ok (.laload, 1) := by decide +kernel
theorem d_Me_sideDistance_92 : decode b_Me_sideDistance 92 = .ok (.lsub, 1) := by decide +kernel
theorem d_Me_sideDistance_93 : decode b_Me_sideDistance 93 = .ok (.lstore 14, 2) := by decide +kernel
theorem d_Me_sideDistance_95 : decode b_Me_sideDistance 95 = .ok (.aload_n 2, 1) := by decide +kernel
theorem d_Me_sideDistance_96 : decode b_Me_sideDistance 96 = .ok (.getfield 85, 3) := by decide +kernel
theorem d_Me_sideDistance_99 : decode b_Me_sideDistance 99 = .ok (.iload 13, 2) := by decide +kernel
theorem d_Me_sideDistance_101 : decode b_Me_sideDistance 101 = .ok (.laload, 1) := by decide +kernel
theorem d_Me_sideDistance_102 : decode b_Me_sideDistance 102 = .ok (.aload_n 0, 1) := by decide +kernel
theorem d_Me_sideDistance_103 : decode b_Me_sideDistance 103 = .ok (.getfield 85, 3) := by decide +kernel
theorem d_Me_sideDistance_106 : decode b_Me_sideDistance 106 = .ok (.iload_n 1, 1) := by decide +kernel
theorem d_Me_sideDistance_107 : decode b_Me_sideDistance 107 = .ok (.laload, 1) := by decide +kernel
theorem d_Me_sideDistance_108 : decode b_Me_sideDistance 108 = .ok (.lsub, 1) := by decide +kernel
theorem d_Me_sideDistance_109 : decode b_Me_sideDistance 109 = .ok (.lstore 16, 2) := by decide +kernel
theorem d_Me_sideDistance_111 : decode b_Me_sideDistance 111 = .ok (.lload 6, 2) := by decide +kernel
theorem d_Me_sideDistance_113 : decode b_Me_sideDistance 113 = .ok (.lload 14, 2) := by decide +kernel
theorem d_Me_sideDistance_115 : decode b_Me_sideDistance 115 = .ok (.lmul, 1) := by decide +kernel
theorem d_Me_sideDistance_116 : decode b_Me_sideDistance 116 = .ok (.lload 8, 2) := by decide +kernel
theorem d_Me_sideDistance_118 : decode b_Me_sideDistance 118 = .ok (.lload 16, 2) := by decide +kernel
theorem d_Me_sideDistance_120 : decode b_Me_sideDistance 120 = .ok (.lmul, 1) := by decide +kernel
theorem d_Me_sideDistance_121 : decode b_Me_sideDistance 121 = .ok (.ladd, 1) := by decide +kernel
theorem d_Me_sideDistance_122 : decode b_Me_sideDistance 122 = .ok (.lstore 18, 2) := by decide +kernel
theorem d_Me_sideDistance_124 : decode b_Me_sideDistance 124 = .ok (.lload 6, 2) := by decide +kernel
theorem d_Me_sideDistance_126 : decode b_Me_sideDistance 126 = .ok (.lload 16, 2) := by decide +kernel
theorem d_Me_sideDistance_128 : decode b_Me_sideDistance 128 = .ok (.lmul, 1) := by decide +kernel
theorem d_Me_sideDistance_129 : decode b_Me_sideDistance 129 = .ok (.lload 8, 2) := by decide +kernel
theorem d_Me_sideDistance_131 : decode b_Me_sideDistance 131 = .ok (.lload 14, 2) := by decide +kernel
theorem d_Me_sideDistance_133 : decode b_Me_sideDistance 133 = .ok (.lmul, 1) := by decide +kernel
theorem d_Me_sideDistance_134 : decode b_Me_sideDistance 134 = .ok (.lsub, 1) := by decide +kernel
theorem d_Me_sideDistance_135 : decode b_Me_sideDistance 135 = .ok (.lstore 20, 2) := by decide +kernel
theorem d_Me_sideDistance_137 : decode b_Me_sideDistance 137 = .ok (.lload 18, 2) := by decide +kernel
theorem d_Me_sideDistance_139 : decode b_Me_sideDistance 139 = .ok (.lconst 0, 1) := by decide +kernel
theorem d_Me_sideDistance_140 : decode b_Me_sideDistance 140 = .ok (.lcmp, 1) := by decide +kernel
theorem d_Me_sideDistance_141 : decode b_Me_sideDistance 141 = .ok (.ifCond .le 31, 3) := by decide +kernel
theorem d_Me_sideDistance_144 : decode b_Me_sideDistance 144 = .ok (.lload 18, 2) := by decide +kernel
theorem d_Me_sideDistance_146 : decode b_Me_sideDistance 146 = .ok (.lload 10, 2) := by decide +kernel
theorem d_Me_sideDistance_148 : decode b_Me_sideDistance 148 = .ok (.lcmp, 1) := by decide +kernel
theorem d_Me_sideDistance_149 : decode b_Me_sideDistance 149 = .ok (.ifCond .ge 23, 3) := by decide +kernel
theorem d_Me_sideDistance_152 : decode b_Me_sideDistance 152 = .ok (.iload 12, 2) := by decide +kernel
theorem d_Me_sideDistance_154 : decode b_Me_sideDistance 154 = .ok (.lload 20, 2) := by decide +kernel
theorem d_Me_sideDistance_156 : decode b_Me_sideDistance 156 = .ok (.lload 20, 2) := by decide +kernel
theorem d_Me_sideDistance_158 : decode b_Me_sideDistance 158 = .ok (.lmul, 1) := by decide +kernel
theorem d_Me_sideDistance_159 : decode b_Me_sideDistance 159 = .ok (.lload_n 3, 1) := by decide +kernel
theorem d_Me_sideDistance_160 : decode b_Me_sideDistance 160 = .ok (.lload 10, 2) := by decide +kernel
theorem d_Me_sideDistance_162 : decode b_Me_sideDistance 162 = .ok (.lmul, 1) := by decide +kernel
theorem d_Me_sideDistance_163 : decode b_Me_sideDistance 163 = .ok (.lsub, 1) := by decide +kernel
theorem d_Me_sideDistance_164 : decode b_Me_sideDistance 164 = .ok (.invokestatic 50, 3) := by decide +kernel
theorem d_Me_sideDistance_167 : decode b_Me_sideDistance 167 = .ok (.invokestatic 88, 3) := by decide +kernel
theorem d_Me_sideDistance_170 : decode b_Me_sideDistance 170 = .ok (.istore 12, 2) := by decide +kernel
theorem d_Me_sideDistance_172 : decode b_Me_sideDistance 172 = .ok (.iinc 13 1, 3) := by decide +kernel
theorem d_Me_sideDistance_175 : decode b_Me_sideDistance 175 = .ok (.goto (-105), 3) := by decide +kernel
theorem d_Me_sideDistance_178 : decode b_Me_sideDistance 178 = .ok (.iload 12, 2) := by decide +kernel
theorem d_Me_sideDistance_180 : decode b_Me_sideDistance 180 = .ok (.ireturn, 1) := by decide +kernel
abbrev rm_Me_sideDistance : Room := { frames := 1, cells := 0, slots := 0, locals := 21 }
theorem ce_Me_sideDistance : gCe y_Me_sideDistance (.code y_Me_sideDistance b_Me_sideDistance 22 (some .int)) 22 4 true := gCe.code wd_405 wd_69 wd_404 (by decide) (by decide +kernel)
def f_Me_sideDistance_L70 (g0 : gG) (c0 : Nat) (c1 : Int32) (c2 : Nat) (c3 : Int64) (c6 : Int64) (c8 : Int64) (c10 : Int64) (K178 : Int32 → gW → gX Int32) : Nat → Int32 → Int32 → gW → gX Int32
  | 0, _, _, _ => none
  | n + 1, z12, z13, w => (gfI w c2 3 5).bind fun v21 => if v21 ≤ z13 then (K178 z12 w) else ((gfA w c2 3 3).bind fun v24 => (gaJ w v24 z13).bind fun v26 => (gfA w c0 3 3).bind fun v28 => (gaJ w v28 c1).bind fun v30 => (gfA w c2 3 4).bind fun v32 => (gaJ w v32 z13).bind fun v34 => (gfA w c0 3 4).bind fun v36 => (gaJ w v36 c1).bind fun v38 => gjoin (fun K172 => if ((c6 * (v26 - v30)) + (c8 * (v34 - v38))) ≤ 0 then (K172 z12 w) else (if c10 ≤ ((c6 * (v26 - v30)) + (c8 * (v34 - v38))) then (K172 z12 w) else (gbind (f_Me_sign g0 ((((c6 * (v34 - v38)) - (c8 * (v26 - v30))) * ((c6 * (v34 - v38)) - (c8 * (v26 - v30)))) - (c3 * c10)) w) fun v45 w => gbind (f_Ma_min g0 z12 v45 w) fun v48 w => K172 v48 w))) (fun (x40 : Int32) (w : gW) => f_Me_sideDistance_L70 g0 c0 c1 c2 c3 c6 c8 c10 K178 n x40 (z13 + 1) w))
def f_Me_sideDistance (g0 : gG) (a0 : Nat) (p1 : Int32) (a2 : Nat) (p3 : Int64) (w : gW) : gX Int32 := (gfI w a0 3 5).bind fun v1 => gjoin (fun K17 => if v1 ≤ (p1 + 1) then (K17 0 w) else (K17 (p1 + 1) w)) (fun (y3 : Int32) (w : gW) => (gfA w a0 3 3).bind fun v4 => (gaJ w v4 y3).bind fun v6 => (gfA w a0 3 3).bind fun v8 => (gaJ w v8 p1).bind fun v10 => (gfA w a0 3 4).bind fun v12 => (gaJ w v12 y3).bind fun v14 => (gfA w a0 3 4).bind fun v16 => (gaJ w v16 p1).bind fun v18 => gjoin (fun K178 => f_Me_sideDistance_L70 g0 a0 p1 a2 p3 (v6 - v10) (v14 - v18) (((v6 - v10) * (v6 - v10)) + ((v14 - v18) * (v14 - v18))) K178 64 1 0 w) (fun (x20 : Int32) (w : gW) => some (.inr x20, w)))
set_option maxHeartbeats 4000000 in
set_option maxRecDepth 100000 in
theorem m_Me_sideDistance (l : Launch) (hst : l.stackTraces = false) (D : gD) (g0 : gG) (a0 : Nat) (p1 : Int32) (a2 : Nat) (p3 : Int64) (w : gW) (r : (String ⊕ Int32) × gW) (h : f_Me_sideDistance g0 a0 p1 a2 p3 w = some r) : gMet l y_Me_sideDistance (.code y_Me_sideDistance b_Me_sideDistance 22 (some .int)) rm_Me_sideDistance D g0 [.ref a0, .int p1, .ref a2, .long p3] w (goI r) := by
  refine gw_ofI (by decide +kernel) (Nat.le_of_ble_eq_true rfl) ?_
  intro p e s m below meth c ls args A Q hx hb hml hown hlocks hin hnt hT hK hZ hA hret hexc hthr hI hl
  obtain ⟨H, hH⟩ : ∃ H, H = s.heap := ⟨_, rfl⟩
  rw [← hH] at hI ⊢
  obtain ⟨locs, hlocs⟩ : ∃ z : List Loc, z = [] := ⟨_, rfl⟩
  rw [← hlocs] at hI ⊢
  have hl : lv_has ls 22 [(0, .ref a0), (1, .int p1), (2, .ref a2), (3, .long p3)] := hl
  unfold f_Me_sideDistance at h
  refine lv_iload_n hx hb d_Me_sideDistance_0 rfl (lv_at hl 1 rfl) ?_
  refine lv_iconst (v := 1) hx hb d_Me_sideDistance_1 (by decide) ?_
  refine lv_iadd hx hb d_Me_sideDistance_2 ?_
  refine lv_aload_n hx hb d_Me_sideDistance_3 rfl (lv_at hl 0 rfl) ?_
  obtain ⟨v1, e2, h⟩ := gb h
  refine gw_getI hx hb hT hown hK hI (ci := 3) rfl i_3 5 (by decide) wd_140 (fun _ h9 => h9) e2 d_Me_sideDistance_4 ?_
  obtain ⟨K17, eK17, h⟩ := gj h
  have hK17 : ∀ (y3 : Int32) (w : gW) (H : Heap) (locs : List Loc) (ls : Array Slot), K17 y3 w = some r → gI D s A w H locs → lv_has ls 22 [(0, .ref a0), (1, .int p1), (2, .ref a2), (3, .long p3)] → W p l e rm_Me_sideDistance s m args below meth c H locs 0 0 Q (F0 m 17 ls [.int y3]) := by
    intro y3 w H locs ls h hI hl
    have h := gk2 eK17 h
    refine lv_istore (lv' := [(5, .int y3), (0, .ref a0), (1, .int p1), (2, .ref a2), (3, .long p3)]) hx hb d_Me_sideDistance_17 hl (by decide) rfl (fun ls hl => ?_)
    refine lv_aload_n hx hb d_Me_sideDistance_19 rfl (lv_at hl 1 rfl) ?_
    obtain ⟨v4, e5, h⟩ := gb h
    refine gw_getA hx hb hT hown hK hI (ci := 3) rfl i_3 3 (by decide) wd_136 (fun _ h9 => h9) e5 d_Me_sideDistance_20 ?_
    refine lv_iload hx hb d_Me_sideDistance_23 (lv_at hl 0 rfl) ?_
    obtain ⟨v6, e7, h⟩ := gb h
    refine gw_aldJ hx hb hK hI e7 d_Me_sideDistance_25 ?_
    refine lv_aload_n hx hb d_Me_sideDistance_26 rfl (lv_at hl 1 rfl) ?_
    obtain ⟨v8, e9, h⟩ := gb h
    refine gw_getA hx hb hT hown hK hI (ci := 3) rfl i_3 3 (by decide) wd_136 (fun _ h9 => h9) e9 d_Me_sideDistance_27 ?_
    refine lv_iload_n hx hb d_Me_sideDistance_30 rfl (lv_at hl 2 rfl) ?_
    obtain ⟨v10, e11, h⟩ := gb h
    refine gw_aldJ hx hb hK hI e11 d_Me_sideDistance_31 ?_
    refine lv_lsub hx hb d_Me_sideDistance_32 ?_
    refine lv_lstore (lv' := [(6, .long (v6 - v10)), (5, .int y3), (0, .ref a0), (1, .int p1), (2, .ref a2), (3, .long p3)]) hx hb d_Me_sideDistance_33 hl (by decide) rfl (fun ls hl => ?_)
    refine lv_aload_n hx hb d_Me_sideDistance_35 rfl (lv_at hl 2 rfl) ?_
    obtain ⟨v12, e13, h⟩ := gb h
    refine gw_getA hx hb hT hown hK hI (ci := 3) rfl i_3 4 (by decide) wd_138 (fun _ h9 => h9) e13 d_Me_sideDistance_36 ?_
    refine lv_iload hx hb d_Me_sideDistance_39 (lv_at hl 1 rfl) ?_
    obtain ⟨v14, e15, h⟩ := gb h
    refine gw_aldJ hx hb hK hI e15 d_Me_sideDistance_41 ?_
    refine lv_aload_n hx hb d_Me_sideDistance_42 rfl (lv_at hl 2 rfl) ?_
    obtain ⟨v16, e17, h⟩ := gb h
    refine gw_getA hx hb hT hown hK hI (ci := 3) rfl i_3 4 (by decide) wd_138 (fun _ h9 => h9) e17 d_Me_sideDistance_43 ?_
    refine lv_iload_n hx hb d_Me_sideDistance_46 rfl (lv_at hl 3 rfl) ?_
    obtain ⟨v18, e19, h⟩ := gb h
    refine gw_aldJ hx hb hK hI e19 d_Me_sideDistance_47 ?_
    refine lv_lsub hx hb d_Me_sideDistance_48 ?_
    refine lv_lstore (lv' := [(8, .long (v14 - v18)), (6, .long (v6 - v10)), (5, .int y3), (0, .ref a0), (1, .int p1), (2, .ref a2), (3, .long p3)]) hx hb d_Me_sideDistance_49 hl (by decide) rfl (fun ls hl => ?_)
    refine lv_lload hx hb d_Me_sideDistance_51 (lv_at hl 1 rfl) ?_
    refine lv_lload hx hb d_Me_sideDistance_53 (lv_at hl 1 rfl) ?_
    refine lv_lmul hx hb d_Me_sideDistance_55 ?_
    refine lv_lload hx hb d_Me_sideDistance_56 (lv_at hl 0 rfl) ?_
    refine lv_lload hx hb d_Me_sideDistance_58 (lv_at hl 0 rfl) ?_
    refine lv_lmul hx hb d_Me_sideDistance_60 ?_
    refine lv_ladd hx hb d_Me_sideDistance_61 ?_
    refine lv_lstore (lv' := [(10, .long (((v6 - v10) * (v6 - v10)) + ((v14 - v18) * (v14 - v18)))), (8, .long (v14 - v18)), (6, .long (v6 - v10)), (5, .int y3), (0, .ref a0), (1, .int p1), (2, .ref a2), (3, .long p3)]) hx hb d_Me_sideDistance_62 hl (by decide) rfl (fun ls hl => ?_)
    refine lv_iconst (v := 1) hx hb d_Me_sideDistance_64 (by decide) ?_
    refine lv_istore (lv' := [(12, .int 1), (10, .long (((v6 - v10) * (v6 - v10)) + ((v14 - v18) * (v14 - v18)))), (8, .long (v14 - v18)), (6, .long (v6 - v10)), (5, .int y3), (0, .ref a0), (1, .int p1), (2, .ref a2), (3, .long p3)]) hx hb d_Me_sideDistance_65 hl (by decide) rfl (fun ls hl => ?_)
    refine lv_iconst (v := 0) hx hb d_Me_sideDistance_67 (by decide) ?_
    refine lv_istore (lv' := [(13, .int 0), (12, .int 1), (10, .long (((v6 - v10) * (v6 - v10)) + ((v14 - v18) * (v14 - v18)))), (8, .long (v14 - v18)), (6, .long (v6 - v10)), (5, .int y3), (0, .ref a0), (1, .int p1), (2, .ref a2), (3, .long p3)]) hx hb d_Me_sideDistance_68 hl (by decide) rfl (fun ls hl => ?_)
    obtain ⟨K178, eK178, h⟩ := gj h
    have hK178 : ∀ (x20 : Int32) (w : gW) (H : Heap) (locs : List Loc) (ls : Array Slot), K178 x20 w = some r → gI D s A w H locs → lv_has ls 22 [(12, .int x20)] → W p l e rm_Me_sideDistance s m args below meth c H locs 0 0 Q (F0 m 178 ls []) := by
      intro x20 w H locs ls h hI hl
      have h := gk2 eK178 h
      refine lv_iload hx hb d_Me_sideDistance_178 (lv_at hl 0 rfl) ?_
      exact W.widen (show 0 ≤ 0 by omega) (show 0 ≤ 0 by omega) (hret _ _ (Option.some.inj h).symm _ _ _ _ d_Me_sideDistance_180 hI)
    have hL70 : ∀ (n : Nat), ∀ (z21 : Int32) (z22 : Int32) (w : gW) (H : Heap) (locs : List Loc) (ls : Array Slot), f_Me_sideDistance_L70 g0 a0 p1 a2 p3 (v6 - v10) (v14 - v18) (((v6 - v10) * (v6 - v10)) + ((v14 - v18) * (v14 - v18))) K178 n z21 z22 w = some r → gI D s A w H locs → lv_has ls 22 [(0, .ref a0), (1, .int p1), (2, .ref a2), (3, .long p3), (6, .long (v6 - v10)), (8, .long (v14 - v18)), (10, .long (((v6 - v10) * (v6 - v10)) + ((v14 - v18) * (v14 - v18)))), (12, .int z21), (13, .int z22)] → W p l e rm_Me_sideDistance s m args below meth c H locs 0 0 Q (F0 m 70 ls []) := by
      intro n
      induction n with
      | zero => intro z21 z22 w H locs ls h hI hl; exact absurd h (by simp [f_Me_sideDistance_L70])
      | succ n ih =>
        intro z21 z22 w H locs ls h hI hl
        rw [f_Me_sideDistance_L70] at h
        refine lv_iload hx hb d_Me_sideDistance_70 (lv_at hl 8 rfl) ?_
        refine lv_aload_n hx hb d_Me_sideDistance_72 rfl (lv_at hl 2 rfl) ?_
        obtain ⟨v23, e24, h⟩ := gb h
        refine gw_getI hx hb hT hown hK hI (ci := 3) rfl i_3 5 (by decide) wd_140 (fun _ h9 => h9) e24 d_Me_sideDistance_73 ?_
        refine lv_icmp_ge (tgt := 178) hx hb d_Me_sideDistance_76 (by decide) (fun c25 => ?_) (fun c25 => ?_)
        · skip
          have h := git c25 h
          exact hK178 _ w H locs ls h hI (lv_sub hl [7] rfl)
        · skip
          have h := gie c25 h
          refine lv_aload_n hx hb d_Me_sideDistance_79 rfl (lv_at hl 2 rfl) ?_
          obtain ⟨v26, e27, h⟩ := gb h
          refine gw_getA hx hb hT hown hK hI (ci := 3) rfl i_3 3 (by decide) wd_136 (fun _ h9 => h9) e27 d_Me_sideDistance_80 ?_
          refine lv_iload hx hb d_Me_sideDistance_83 (lv_at hl 8 rfl) ?_
          obtain ⟨v28, e29, h⟩ := gb h
          refine gw_aldJ hx hb hK hI e29 d_Me_sideDistance_85 ?_
          refine lv_aload_n hx hb d_Me_sideDistance_86 rfl (lv_at hl 0 rfl) ?_
          obtain ⟨v30, e31, h⟩ := gb h
          refine gw_getA hx hb hT hown hK hI (ci := 3) rfl i_3 3 (by decide) wd_136 (fun _ h9 => h9) e31 d_Me_sideDistance_87 ?_
          refine lv_iload_n hx hb d_Me_sideDistance_90 rfl (lv_at hl 1 rfl) ?_
          obtain ⟨v32, e33, h⟩ := gb h
          refine gw_aldJ hx hb hK hI e33 d_Me_sideDistance_91 ?_
          refine lv_lsub hx hb d_Me_sideDistance_92 ?_
          refine lv_lstore (lv' := [(14, .long (v28 - v32)), (0, .ref a0), (1, .int p1), (2, .ref a2), (3, .long p3), (6, .long (v6 - v10)), (8, .long (v14 - v18)), (10, .long (((v6 - v10) * (v6 - v10)) + ((v14 - v18) * (v14 - v18)))), (12, .int z21), (13, .int z22)]) hx hb d_Me_sideDistance_93 hl (by decide) rfl (fun ls hl => ?_)
          refine lv_aload_n hx hb d_Me_sideDistance_95 rfl (lv_at hl 3 rfl) ?_
          obtain ⟨v34, e35, h⟩ := gb h
          refine gw_getA hx hb hT hown hK hI (ci := 3) rfl i_3 4 (by decide) wd_138 (fun _ h9 => h9) e35 d_Me_sideDistance_96 ?_
          refine lv_iload hx hb d_Me_sideDistance_99 (lv_at hl 9 rfl) ?_
          obtain ⟨v36, e37, h⟩ := gb h
          refine gw_aldJ hx hb hK hI e37 d_Me_sideDistance_101 ?_
          refine lv_aload_n hx hb d_Me_sideDistance_102 rfl (lv_at hl 1 rfl) ?_
          obtain ⟨v38, e39, h⟩ := gb h
          refine gw_getA hx hb hT hown hK hI (ci := 3) rfl i_3 4 (by decide) wd_138 (fun _ h9 => h9) e39 d_Me_sideDistance_103 ?_
          refine lv_iload_n hx hb d_Me_sideDistance_106 rfl (lv_at hl 2 rfl) ?_
          obtain ⟨v40, e41, h⟩ := gb h
          refine gw_aldJ hx hb hK hI e41 d_Me_sideDistance_107 ?_
          refine lv_lsub hx hb d_Me_sideDistance_108 ?_
          refine lv_lstore (lv' := [(16, .long (v36 - v40)), (14, .long (v28 - v32)), (0, .ref a0), (1, .int p1), (2, .ref a2), (3, .long p3), (6, .long (v6 - v10)), (8, .long (v14 - v18)), (10, .long (((v6 - v10) * (v6 - v10)) + ((v14 - v18) * (v14 - v18)))), (12, .int z21), (13, .int z22)]) hx hb d_Me_sideDistance_109 hl (by decide) rfl (fun ls hl => ?_)
          refine lv_lload hx hb d_Me_sideDistance_111 (lv_at hl 6 rfl) ?_
          refine lv_lload hx hb d_Me_sideDistance_113 (lv_at hl 1 rfl) ?_
          refine lv_lmul hx hb d_Me_sideDistance_115 ?_
          refine lv_lload hx hb d_Me_sideDistance_116 (lv_at hl 7 rfl) ?_
          refine lv_lload hx hb d_Me_sideDistance_118 (lv_at hl 0 rfl) ?_
          refine lv_lmul hx hb d_Me_sideDistance_120 ?_
          refine lv_ladd hx hb d_Me_sideDistance_121 ?_
          refine lv_lstore (lv' := [(18, .long (((v6 - v10) * (v28 - v32)) + ((v14 - v18) * (v36 - v40)))), (16, .long (v36 - v40)), (14, .long (v28 - v32)), (0, .ref a0), (1, .int p1), (2, .ref a2), (3, .long p3), (6, .long (v6 - v10)), (8, .long (v14 - v18)), (10, .long (((v6 - v10) * (v6 - v10)) + ((v14 - v18) * (v14 - v18)))), (12, .int z21), (13, .int z22)]) hx hb d_Me_sideDistance_122 hl (by decide) rfl (fun ls hl => ?_)
          refine lv_lload hx hb d_Me_sideDistance_124 (lv_at hl 7 rfl) ?_
          refine lv_lload hx hb d_Me_sideDistance_126 (lv_at hl 1 rfl) ?_
          refine lv_lmul hx hb d_Me_sideDistance_128 ?_
          refine lv_lload hx hb d_Me_sideDistance_129 (lv_at hl 8 rfl) ?_
          refine lv_lload hx hb d_Me_sideDistance_131 (lv_at hl 2 rfl) ?_
          refine lv_lmul hx hb d_Me_sideDistance_133 ?_
          refine lv_lsub hx hb d_Me_sideDistance_134 ?_
          refine lv_lstore (lv' := [(20, .long (((v6 - v10) * (v36 - v40)) - ((v14 - v18) * (v28 - v32)))), (18, .long (((v6 - v10) * (v28 - v32)) + ((v14 - v18) * (v36 - v40)))), (16, .long (v36 - v40)), (14, .long (v28 - v32)), (0, .ref a0), (1, .int p1), (2, .ref a2), (3, .long p3), (6, .long (v6 - v10)), (8, .long (v14 - v18)), (10, .long (((v6 - v10) * (v6 - v10)) + ((v14 - v18) * (v14 - v18)))), (12, .int z21), (13, .int z22)]) hx hb d_Me_sideDistance_135 hl (by decide) rfl (fun ls hl => ?_)
          refine lv_lload hx hb d_Me_sideDistance_137 (lv_at hl 1 rfl) ?_
          refine lv_lconst (v := 0) hx hb d_Me_sideDistance_139 (by decide) ?_
          refine W.lcmp hx hb d_Me_sideDistance_140 ?_
          obtain ⟨K172, eK172, h⟩ := gj h
          have hK172 : ∀ (x42 : Int32) (w : gW) (H : Heap) (locs : List Loc) (ls : Array Slot), K172 x42 w = some r → gI D s A w H locs → lv_has ls 22 [(0, .ref a0), (1, .int p1), (2, .ref a2), (3, .long p3), (6, .long (v6 - v10)), (8, .long (v14 - v18)), (10, .long (((v6 - v10) * (v6 - v10)) + ((v14 - v18) * (v14 - v18)))), (12, .int x42), (13, .int z22)] → W p l e rm_Me_sideDistance s m args below meth c H locs 0 0 Q (F0 m 172 ls []) := by
            intro x42 w H locs ls h hI hl
            have h := gk2 eK172 h
            refine lv_iinc (v := z22 + 1) (lv' := [(13, .int (z22 + 1)), (0, .ref a0), (1, .int p1), (2, .ref a2), (3, .long p3), (6, .long (v6 - v10)), (8, .long (v14 - v18)), (10, .long (((v6 - v10) * (v6 - v10)) + ((v14 - v18) * (v14 - v18)))), (12, .int x42)]) hx hb d_Me_sideDistance_172 hl (k := 8) rfl rfl (by decide) rfl (fun ls hl => ?_)
            refine lv_goto (tgt := 70) hx hb d_Me_sideDistance_175 (by decide) ?_
            exact ih _ _ w H locs ls h hI (lv_sub hl [1, 2, 3, 4, 5, 6, 7, 8, 0] rfl)
          refine lv_if_le (tgt := 172) hx hb d_Me_sideDistance_141 (by decide) (fun c43 => ?_) (fun c43 => ?_)
          · have c43 := (lg_cmp_le _ _).mp c43
            have h := git c43 h
            exact hK172 _ w H locs ls h hI (lv_sub hl [4, 5, 6, 7, 8, 9, 10, 11, 12] rfl)
          · have c43 := mt (lg_cmp_le _ _).mpr c43
            have h := gie c43 h
            refine lv_lload hx hb d_Me_sideDistance_144 (lv_at hl 1 rfl) ?_
            refine lv_lload hx hb d_Me_sideDistance_146 (lv_at hl 10 rfl) ?_
            refine W.lcmp hx hb d_Me_sideDistance_148 ?_
            refine lv_if_ge (tgt := 172) hx hb d_Me_sideDistance_149 (by decide) (fun c44 => ?_) (fun c44 => ?_)
            · have c44 := (lg_cmp_ge _ _).mp c44
              have h := git c44 h
              exact hK172 _ w H locs ls h hI (lv_sub hl [4, 5, 6, 7, 8, 9, 10, 11, 12] rfl)
            · have c44 := mt (lg_cmp_ge _ _).mpr c44
              have h := gie c44 h
              refine lv_iload hx hb d_Me_sideDistance_152 (lv_at hl 11 rfl) ?_
              refine lv_lload hx hb d_Me_sideDistance_154 (lv_at hl 0 rfl) ?_
              refine lv_lload hx hb d_Me_sideDistance_156 (lv_at hl 0 rfl) ?_
              refine lv_lmul hx hb d_Me_sideDistance_158 ?_
              refine lv_lload_n hx hb d_Me_sideDistance_159 rfl (lv_at hl 7 rfl) ?_
              refine lv_lload hx hb d_Me_sideDistance_160 (lv_at hl 10 rfl) ?_
              refine lv_lmul hx hb d_Me_sideDistance_162 ?_
              refine lv_lsub hx hb d_Me_sideDistance_163 ?_
              obtain ⟨u45, e46⟩ := gsome h
              refine gw_callI e46 h (gw_runS (As := [.long (((((v6 - v10) * (v36 - v40)) - ((v14 - v18) * (v28 - v32))) * (((v6 - v10) * (v36 - v40)) - ((v14 - v18) * (v28 - v32)))) - (p3 * (((v6 - v10) * (v6 - v10)) + ((v14 - v18) * (v14 - v18)))))]) (rest := [.int z21]) hx hb hml hown hT hK hZ hA hI (m_Me_sign l hst D g0 (((((v6 - v10) * (v36 - v40)) - ((v14 - v18) * (v28 - v32))) * (((v6 - v10) * (v36 - v40)) - ((v14 - v18) * (v28 - v32)))) - (p3 * (((v6 - v10) * (v6 - v10)) + ((v14 - v18) * (v14 - v18))))) w u45 e46) ce_Me_sign wd_383 ⟨by decide, by decide⟩ rfl rfl hl.1 rfl (lv_room (Nat.le_of_ble_eq_true rfl)) d_Me_sideDistance_164 ⟨(show 0 + 0 ≤ 0 by omega), (show 0 + 0 ≤ 0 by omega)⟩) hI hA hexc (show 0 + 0 ≤ 0 by omega) (show 0 + 0 ≤ 0 by omega) (fun v47 w H locs h hI => ?_)
              obtain ⟨u48, e49⟩ := gsome h
              refine gw_callI e49 h (gw_runS (As := [.int z21, .int v47]) (rest := []) hx hb hml hown hT hK hZ hA hI (m_Ma_min l hst D g0 z21 v47 w u48 e49) ce_Ma_min wd_389 ⟨by decide, by decide⟩ rfl rfl hl.1 rfl (lv_room (Nat.le_of_ble_eq_true rfl)) d_Me_sideDistance_167 ⟨(show 0 + 0 ≤ 0 by omega), (show 0 + 0 ≤ 0 by omega)⟩) hI hA hexc (show 0 + 0 ≤ 0 by omega) (show 0 + 0 ≤ 0 by omega) (fun v50 w H locs h hI => ?_)
              refine lv_istore (lv' := [(12, .int v50), (20, .long (((v6 - v10) * (v36 - v40)) - ((v14 - v18) * (v28 - v32)))), (18, .long (((v6 - v10) * (v28 - v32)) + ((v14 - v18) * (v36 - v40)))), (16, .long (v36 - v40)), (14, .long (v28 - v32)), (0, .ref a0), (1, .int p1), (2, .ref a2), (3, .long p3), (6, .long (v6 - v10)), (8, .long (v14 - v18)), (10, .long (((v6 - v10) * (v6 - v10)) + ((v14 - v18) * (v14 - v18)))), (13, .int z22)]) hx hb d_Me_sideDistance_170 hl (by decide) rfl (fun ls hl => ?_)
              exact hK172 _ w H locs ls h hI (lv_sub hl [5, 6, 7, 8, 9, 10, 11, 0, 12] rfl)
    exact hL70 64 _ _ w H locs ls h hI (lv_sub hl [6, 7, 8, 9, 4, 3, 2, 1, 0] rfl)
  refine lv_icmp_ge (tgt := 16) hx hb d_Me_sideDistance_7 (by decide) (fun c51 => ?_) (fun c51 => ?_)
  · skip
    have h := git c51 h
    refine lv_iconst (v := 0) hx hb d_Me_sideDistance_16 (by decide) ?_
    exact hK17 _ w H locs ls h hI (lv_sub hl [0, 1, 2, 3] rfl)
  · skip
    have h := gie c51 h
    refine lv_iload_n hx hb d_Me_sideDistance_10 rfl (lv_at hl 1 rfl) ?_
    refine lv_iconst (v := 1) hx hb d_Me_sideDistance_11 (by decide) ?_
    refine lv_iadd hx hb d_Me_sideDistance_12 ?_
    refine lv_goto (tgt := 17) hx hb d_Me_sideDistance_13 (by decide) ?_
    exact hK17 _ w H locs ls h hI (lv_sub hl [0, 1, 2, 3] rfl)

abbrev b_Me_sidesDistance : ByteArray := prog_5_method_10_code
def y_Me_sidesDistance : MethodName := ⟨"BodySolids$Meeting", "sidesDistance", "(LBodySolids$Solid;LBodySolids$Solid;J)I"⟩
theorem d_Me_sidesDistance_0 : decode b_Me_sidesDistance 0 = .ok (.iconst 1, 1) := by decide +kernel
theorem d_Me_sidesDistance_1 : decode b_Me_sidesDistance 1 = .ok (.istore 4, 2) := by decide +kernel
theorem d_Me_sidesDistance_3 : decode b_Me_sidesDistance 3 = .ok (.iconst 0, 1) := by decide +kernel
theorem d_Me_sidesDistance_4 : decode b_Me_sidesDistance 4 = .ok (.istore 5, 2) := by decide +kernel
theorem d_Me_sidesDistance_6 : decode b_Me_sidesDistance 6 = .ok (.iload 5, 2) := by decide +kernel
theorem d_Me_sidesDistance_8 : decode b_Me_sidesDistance 8 = .ok (.aload_n 0, 1) := by decide +kernel
theorem d_Me_sidesDistance_9 : decode b_Me_sidesDistance 9 = .ok (.getfield 78, 3) := by decide +kernel
theorem d_Me_sidesDistance_12 : decode b_Me_sidesDistance 12 = .ok (.if_icmp .ge 24, 3) := by decide +kernel
theorem d_Me_sidesDistance_15 : decode b_Me_sidesDistance 15 = .ok (.iload 4, 2) := by decide +kernel
theorem d_Me_sidesDistance_17 : decode b_Me_sidesDistance 17 = .ok (.aload_n 0, 1) := by decide +kernel
theorem d_Me_sidesDistance_18 : decode b_Me_sidesDistance 18 = .ok (.iload 5, 2) := by decide +kernel
theorem d_Me_sidesDistance_20 : decode b_Me_sidesDistance 20 = .ok (.aload_n 1, 1) := by decide +kernel
theorem d_Me_sidesDistance_21 : decode b_Me_sidesDistance 21 = .ok (.lload_n 2, 1) := by decide +kernel
theorem d_Me_sidesDistance_22 : decode b_Me_sidesDistance 22 = .ok (.invokestatic 97, 3) := by decide +kernel
theorem d_Me_sidesDistance_25 : decode b_Me_sidesDistance 25 = .ok (.invokestatic 88, 3) := by decide +kernel
theorem d_Me_sidesDistance_28 : decode b_Me_sidesDistance 28 = .ok (.istore 4, 2) := by decide +kernel
theorem d_Me_sidesDistance_30 : decode b_Me_sidesDistance 30 = .ok (.iinc 5 1, 3) := by decide +kernel
theorem d_Me_sidesDistance_33 : decode b_Me_sidesDistance 33 = .ok (.goto (-27), 3) := by decide +kernel
theorem d_Me_sidesDistance_36 : decode b_Me_sidesDistance 36 = .ok (.iload 4, 2) := by decide +kernel
theorem d_Me_sidesDistance_38 : decode b_Me_sidesDistance 38 = .ok (.ireturn, 1) := by decide +kernel
abbrev rm_Me_sidesDistance : Room := { frames := 2, cells := 0, slots := 0, locals := 62 }
theorem ce_Me_sidesDistance : gCe y_Me_sidesDistance (.code y_Me_sidesDistance b_Me_sidesDistance 6 (some .int)) 6 3 true := gCe.code wd_402 wd_69 wd_401 (by decide) (by decide +kernel)
def f_Me_sidesDistance_L6 (g0 : gG) (c0 : Nat) (c1 : Nat) (c2 : Int64) (K36 : Int32 → gW → gX Int32) : Nat → Int32 → Int32 → gW → gX Int32
  | 0, _, _, _ => none
  | n + 1, z4, z5, w => (gfI w c0 3 5).bind fun v2 => if v2 ≤ z5 then (K36 z4 w) else (gbind (f_Me_sideDistance g0 c0 z5 c1 c2 w) fun v7 w => gbind (f_Ma_min g0 z4 v7 w) fun v10 w => f_Me_sidesDistance_L6 g0 c0 c1 c2 K36 n v10 (z5 + 1) w)
def f_Me_sidesDistance (g0 : gG) (a0 : Nat) (a1 : Nat) (p2 : Int64) (w : gW) : gX Int32 := gjoin (fun K36 => f_Me_sidesDistance_L6 g0 a0 a1 p2 K36 64 1 0 w) (fun (x1 : Int32) (w : gW) => some (.inr x1, w))
set_option maxHeartbeats 4000000 in
set_option maxRecDepth 100000 in
theorem m_Me_sidesDistance (l : Launch) (hst : l.stackTraces = false) (D : gD) (g0 : gG) (a0 : Nat) (a1 : Nat) (p2 : Int64) (w : gW) (r : (String ⊕ Int32) × gW) (h : f_Me_sidesDistance g0 a0 a1 p2 w = some r) : gMet l y_Me_sidesDistance (.code y_Me_sidesDistance b_Me_sidesDistance 6 (some .int)) rm_Me_sidesDistance D g0 [.ref a0, .ref a1, .long p2] w (goI r) := by
  refine gw_ofI (by decide +kernel) (Nat.le_of_ble_eq_true rfl) ?_
  intro p e s m below meth c ls args A Q hx hb hml hown hlocks hin hnt hT hK hZ hA hret hexc hthr hI hl
  obtain ⟨H, hH⟩ : ∃ H, H = s.heap := ⟨_, rfl⟩
  rw [← hH] at hI ⊢
  obtain ⟨locs, hlocs⟩ : ∃ z : List Loc, z = [] := ⟨_, rfl⟩
  rw [← hlocs] at hI ⊢
  have hl : lv_has ls 6 [(0, .ref a0), (1, .ref a1), (2, .long p2)] := hl
  unfold f_Me_sidesDistance at h
  refine lv_iconst (v := 1) hx hb d_Me_sidesDistance_0 (by decide) ?_
  refine lv_istore (lv' := [(4, .int 1), (0, .ref a0), (1, .ref a1), (2, .long p2)]) hx hb d_Me_sidesDistance_1 hl (by decide) rfl (fun ls hl => ?_)
  refine lv_iconst (v := 0) hx hb d_Me_sidesDistance_3 (by decide) ?_
  refine lv_istore (lv' := [(5, .int 0), (4, .int 1), (0, .ref a0), (1, .ref a1), (2, .long p2)]) hx hb d_Me_sidesDistance_4 hl (by decide) rfl (fun ls hl => ?_)
  obtain ⟨K36, eK36, h⟩ := gj h
  have hK36 : ∀ (x1 : Int32) (w : gW) (H : Heap) (locs : List Loc) (ls : Array Slot), K36 x1 w = some r → gI D s A w H locs → lv_has ls 6 [(4, .int x1)] → W p l e rm_Me_sidesDistance s m args below meth c H locs 0 0 Q (F0 m 36 ls []) := by
    intro x1 w H locs ls h hI hl
    have h := gk2 eK36 h
    refine lv_iload hx hb d_Me_sidesDistance_36 (lv_at hl 0 rfl) ?_
    exact W.widen (show 0 ≤ 0 by omega) (show 0 ≤ 0 by omega) (hret _ _ (Option.some.inj h).symm _ _ _ _ d_Me_sidesDistance_38 hI)
  have hL6 : ∀ (n : Nat), ∀ (z2 : Int32) (z3 : Int32) (w : gW) (H : Heap) (locs : List Loc) (ls : Array Slot), f_Me_sidesDistance_L6 g0 a0 a1 p2 K36 n z2 z3 w = some r → gI D s A w H locs → lv_has ls 6 [(0, .ref a0), (1, .ref a1), (2, .long p2), (4, .int z2), (5, .int z3)] → W p l e rm_Me_sidesDistance s m args below meth c H locs 0 0 Q (F0 m 6 ls []) := by
    intro n
    induction n with
    | zero => intro z2 z3 w H locs ls h hI hl; exact absurd h (by simp [f_Me_sidesDistance_L6])
    | succ n ih =>
      intro z2 z3 w H locs ls h hI hl
      rw [f_Me_sidesDistance_L6] at h
      refine lv_iload hx hb d_Me_sidesDistance_6 (lv_at hl 4 rfl) ?_
      refine lv_aload_n hx hb d_Me_sidesDistance_8 rfl (lv_at hl 0 rfl) ?_
      obtain ⟨v4, e5, h⟩ := gb h
      refine gw_getI hx hb hT hown hK hI (ci := 3) rfl i_3 5 (by decide) wd_140 (fun _ h9 => h9) e5 d_Me_sidesDistance_9 ?_
      refine lv_icmp_ge (tgt := 36) hx hb d_Me_sidesDistance_12 (by decide) (fun c6 => ?_) (fun c6 => ?_)
      · skip
        have h := git c6 h
        exact hK36 _ w H locs ls h hI (lv_sub hl [3] rfl)
      · skip
        have h := gie c6 h
        refine lv_iload hx hb d_Me_sidesDistance_15 (lv_at hl 3 rfl) ?_
        refine lv_aload_n hx hb d_Me_sidesDistance_17 rfl (lv_at hl 0 rfl) ?_
        refine lv_iload hx hb d_Me_sidesDistance_18 (lv_at hl 4 rfl) ?_
        refine lv_aload_n hx hb d_Me_sidesDistance_20 rfl (lv_at hl 1 rfl) ?_
        refine lv_lload_n hx hb d_Me_sidesDistance_21 rfl (lv_at hl 2 rfl) ?_
        obtain ⟨u7, e8⟩ := gsome h
        refine gw_callI e8 h (gw_runS (As := [.ref a0, .int z3, .ref a1, .long p2]) (rest := [.int z2]) hx hb hml hown hT hK hZ hA hI (m_Me_sideDistance l hst D g0 a0 z3 a1 p2 w u7 e8) ce_Me_sideDistance wd_403 ⟨by decide, by decide⟩ rfl rfl hl.1 rfl (lv_room (Nat.le_of_ble_eq_true rfl)) d_Me_sidesDistance_22 ⟨(show 0 + 0 ≤ 0 by omega), (show 0 + 0 ≤ 0 by omega)⟩) hI hA hexc (show 0 + 0 ≤ 0 by omega) (show 0 + 0 ≤ 0 by omega) (fun v9 w H locs h hI => ?_)
        obtain ⟨u10, e11⟩ := gsome h
        refine gw_callI e11 h (gw_runS (As := [.int z2, .int v9]) (rest := []) hx hb hml hown hT hK hZ hA hI (m_Ma_min l hst D g0 z2 v9 w u10 e11) ce_Ma_min wd_389 ⟨by decide, by decide⟩ rfl rfl hl.1 rfl (lv_room (Nat.le_of_ble_eq_true rfl)) d_Me_sidesDistance_25 ⟨(show 0 + 0 ≤ 0 by omega), (show 0 + 0 ≤ 0 by omega)⟩) hI hA hexc (show 0 + 0 ≤ 0 by omega) (show 0 + 0 ≤ 0 by omega) (fun v12 w H locs h hI => ?_)
        refine lv_istore (lv' := [(4, .int v12), (0, .ref a0), (1, .ref a1), (2, .long p2), (5, .int z3)]) hx hb d_Me_sidesDistance_28 hl (by decide) rfl (fun ls hl => ?_)
        refine lv_iinc (v := z3 + 1) (lv' := [(5, .int (z3 + 1)), (4, .int v12), (0, .ref a0), (1, .ref a1), (2, .long p2)]) hx hb d_Me_sidesDistance_30 hl (k := 4) rfl rfl (by decide) rfl (fun ls hl => ?_)
        refine lv_goto (tgt := 6) hx hb d_Me_sidesDistance_33 (by decide) ?_
        exact ih _ _ w H locs ls h hI (lv_sub hl [2, 3, 4, 1, 0] rfl)
  exact hL6 64 _ _ w H locs ls h hI (lv_sub hl [2, 3, 4, 1, 0] rfl)

abbrev b_Me_distance : ByteArray := prog_5_method_8_code
def y_Me_distance : MethodName := ⟨"BodySolids$Meeting", "distance", "(LBodySolids$Solid;LBodySolids$Solid;J)I"⟩
theorem d_Me_distance_0 : decode b_Me_distance 0 = .ok (.aload_n 0, 1) := by decide +kernel
theorem d_Me_distance_1 : decode b_Me_distance 1 = .ok (.aload_n 1, 1) := by decide +kernel
theorem d_Me_distance_2 : decode b_Me_distance 2 = .ok (.invokestatic 42, 3) := by decide +kernel
theorem d_Me_distance_5 : decode b_Me_distance 5 = .ok (.iconst 1, 1) := by decide +kernel
theorem d_Me_distance_6 : decode b_Me_distance 6 = .ok (.if_icmp .eq 9, 3) := by decide +kernel
theorem d_Me_distance_9 : decode b_Me_distance 9 = .ok (.lload_n 2, 1) := by decide +kernel
theorem d_Me_distance_10 : decode b_Me_distance 10 = .ok (.lneg, 1) := by decide +kernel
theorem d_Me_distance_11 : decode b_Me_distance 11 = .ok (.invokestatic 50, 3) := by decide +kernel
theorem d_Me_distance_14 : decode b_Me_distance 14 = .ok (.ireturn, 1) := by decide +kernel
theorem d_Me_distance_15 : decode b_Me_distance 15 = .ok (.aload_n 0, 1) := by decide +kernel
theorem d_Me_distance_16 : decode b_Me_distance 16 = .ok (.getfield 71, 3) := by decide +kernel
theorem d_Me_distance_19 : decode b_Me_distance 19 = .ok (.iconst 2, 1) := by decide +kernel
theorem d_Me_distance_20 : decode b_Me_distance 20 = .ok (.if_icmp .ne 19, 3) := by decide +kernel
theorem d_Me_distance_23 : decode b_Me_distance 23 = .ok (.aload_n 0, 1) := by decide +kernel
theorem d_Me_distance_24 : decode b_Me_distance 24 = .ok (.aload_n 1, 1) := by decide +kernel
theorem d_Me_distance_25 : decode b_Me_distance 25 = .ok (.lload_n 2, 1) := by decide +kernel
theorem d_Me_distance_26 : decode b_Me_distance 26 = .ok (.invokestatic 91, 3) := by decide +kernel
theorem d_Me_distance_29 : decode b_Me_distance 29 = .ok (.aload_n 0, 1) := by decide +kernel
theorem d_Me_distance_30 : decode b_Me_distance 30 = .ok (.aload_n 1, 1) := by decide +kernel
theorem d_Me_distance_31 : decode b_Me_distance 31 = .ok (.lload_n 2, 1) := by decide +kernel
theorem d_Me_distance_32 : decode b_Me_distance 32 = .ok (.invokestatic 94, 3) := by decide +kernel
theorem d_Me_distance_35 : decode b_Me_distance 35 = .ok (.invokestatic 88, 3) := by decide +kernel
theorem d_Me_distance_38 : decode b_Me_distance 38 = .ok (.ireturn, 1) := by decide +kernel
theorem d_Me_distance_39 : decode b_Me_distance 39 = .ok (.aload_n 1, 1) := by decide +kernel
theorem d_Me_distance_40 : decode b_Me_distance 40 = .ok (.getfield 71, 3) := by decide +kernel
theorem d_Me_distance_43 : decode b_Me_distance 43 = .ok (.iconst 2, 1) := by decide +kernel
theorem d_Me_distance_44 : decode b_Me_distance 44 = .ok (.if_icmp .ne 19, 3) := by decide +kernel
theorem d_Me_distance_47 : decode b_Me_distance 47 = .ok (.aload_n 1, 1) := by decide +kernel
theorem d_Me_distance_48 : decode b_Me_distance 48 = .ok (.aload_n 0, 1) := by decide +kernel
theorem d_Me_distance_49 : decode b_Me_distance 49 = .ok (.lload_n 2, 1) := by decide +kernel
theorem d_Me_distance_50 : decode b_Me_distance 50 = .ok (.invokestatic 91, 3) := by decide +kernel
theorem d_Me_distance_53 : decode b_Me_distance 53 = .ok (.aload_n 1, 1) := by decide +kernel
theorem d_Me_distance_54 : decode b_Me_distance 54 = .ok (.aload_n 0, 1) := by decide +kernel
theorem d_Me_distance_55 : decode b_Me_distance 55 = .ok (.lload_n 2, 1) := by decide +kernel
theorem d_Me_distance_56 : decode b_Me_distance 56 = .ok (.invokestatic 94, 3) := by decide +kernel
theorem d_Me_distance_59 : decode b_Me_distance 59 = .ok (.invokestatic 88, 3) := by decide +kernel
theorem d_Me_distance_62 : decode b_Me_distance 62 = .ok (.ireturn, 1) := by decide +kernel
theorem d_Me_distance_63 : decode b_Me_distance 63 = .ok (.aload_n 0, 1) := by decide +kernel
theorem d_Me_distance_64 : decode b_Me_distance 64 = .ok (.getfield 18, 3) := by decide +kernel
theorem d_Me_distance_67 : decode b_Me_distance 67 = .ok (.aload_n 0, 1) := by decide +kernel
theorem d_Me_distance_68 : decode b_Me_distance 68 = .ok (.getfield 21, 3) := by decide +kernel
theorem d_Me_distance_71 : decode b_Me_distance 71 = .ok (.aload_n 1, 1) := by decide +kernel
theorem d_Me_distance_72 : decode b_Me_distance 72 = .ok (.getfield 18, 3) := by decide +kernel
theorem d_Me_distance_75 : decode b_Me_distance 75 = .ok (.aload_n 1, 1) := by decide +kernel
theorem d_Me_distance_76 : decode b_Me_distance 76 = .ok (.getfield 21, 3) := by decide +kernel
theorem d_Me_distance_79 : decode b_Me_distance 79 = .ok (.invokestatic 24, 3) := by decide +kernel
theorem d_Me_distance_82 : decode b_Me_distance 82 = .ok (.lstore 4, 2) := by decide +kernel
theorem d_Me_distance_84 : decode b_Me_distance 84 = .ok (.aload_n 0, 1) := by decide +kernel
theorem d_Me_distance_85 : decode b_Me_distance 85 = .ok (.getfield 30, 3) := by decide +kernel
theorem d_Me_distance_88 : decode b_Me_distance 88 = .ok (.aload_n 0, 1) := by decide +kernel
theorem d_Me_distance_89 : decode b_Me_distance 89 = .ok (.getfield 33, 3) := by decide +kernel
theorem d_Me_distance_92 : decode b_Me_distance 92 = .ok (.aload_n 1, 1) := by decide +kernel
theorem d_Me_distance_93 : decode b_Me_distance 93 = .ok (.getfield 30, 3) := by decide +kernel
theorem d_Me_distance_96 : decode b_Me_distance 96 = .ok (.aload_n 1, 1) := by decide +kernel
theorem d_Me_distance_97 : decode b_Me_distance 97 = .ok (.getfield 33, 3) := by decide +kernel
theorem d_Me_distance_100 : decode b_Me_distance 100 = .ok (.invokestatic 24, 3) := by decide +kernel
theorem d_Me_distance_103 : decode b_Me_distance 103 = .ok (.lstore 6, 2) := by decide +kernel
theorem d_Me_distance_105 : decode b_Me_distance 105 = .ok (.lload 4, 2) := by decide +kernel
theorem d_Me_distance_107 : decode b_Me_distance 107 = .ok (.invokestatic 60, 3) := by decide +kernel
theorem d_Me_distance_110 : decode b_Me_distance 110 = .ok (.lload 6, 2) := by decide +kernel
theorem d_Me_distance_112 : decode b_Me_distance 112 = .ok (.invokestatic 60, 3) := by decide +kernel
theorem d_Me_distance_115 : decode b_Me_distance 115 = .ok (.ladd, 1) := by decide +kernel
theorem d_Me_distance_116 : decode b_Me_distance 116 = .ok (.lload_n 2, 1) := by decide +kernel
theorem d_Me_distance_117 : decode b_Me_distance 117 = .ok (.lsub, 1) := by decide +kernel
theorem d_Me_distance_118 : decode b_Me_distance 118 = .ok (.invokestatic 50, 3) := by decide +kernel
theorem d_Me_distance_121 : decode b_Me_distance 121 = .ok (.ireturn, 1) := by decide +kernel
abbrev rm_Me_distance : Room := { frames := 3, cells := 0, slots := 0, locals := 87 }
theorem ce_Me_distance : gCe y_Me_distance (.code y_Me_distance b_Me_distance 8 (some .int)) 8 3 true := gCe.code wd_393 wd_69 wd_392 (by decide) (by decide +kernel)
def f_Me_distance (g0 : gG) (a0 : Nat) (a1 : Nat) (p2 : Int64) (w : gW) : gX Int32 := gbind (f_Me_outlines g0 a0 a1 w) fun v3 w => if v3 = 1 then ((gfI w a0 3 0).bind fun v5 => if v5 = 2 then (gbind (f_Me_cornersDistance g0 a0 a1 p2 w) fun v53 w => gbind (f_Me_sidesDistance g0 a0 a1 p2 w) fun v56 w => gbind (f_Ma_min g0 v53 v56 w) fun v59 w => some (.inr v59, w)) else ((gfI w a1 3 0).bind fun v8 => if v8 = 2 then (gbind (f_Me_cornersDistance g0 a1 a0 p2 w) fun v44 w => gbind (f_Me_sidesDistance g0 a1 a0 p2 w) fun v47 w => gbind (f_Ma_min g0 v44 v47 w) fun v50 w => some (.inr v50, w)) else ((gfJ w a0 3 6).bind fun v11 => (gfJ w a0 3 9).bind fun v13 => (gfJ w a1 3 6).bind fun v15 => (gfJ w a1 3 9).bind fun v17 => gbind (f_Me_gap g0 v11 v13 v15 v17 w) fun v21 w => (gfJ w a0 3 7).bind fun v22 => (gfJ w a0 3 10).bind fun v24 => (gfJ w a1 3 7).bind fun v26 => (gfJ w a1 3 10).bind fun v28 => gbind (f_Me_gap g0 v22 v24 v26 v28 w) fun v32 w => gbind (f_Me_squareIfAbove g0 v21 w) fun v35 w => gbind (f_Me_squareIfAbove g0 v32 w) fun v38 w => gbind (f_Me_sign g0 ((v35 + v38) - p2) w) fun v41 w => some (.inr v41, w)))) else (gbind (f_Me_sign g0 (-p2) w) fun v62 w => some (.inr v62, w))
set_option maxHeartbeats 4000000 in
set_option maxRecDepth 100000 in
theorem m_Me_distance (l : Launch) (hst : l.stackTraces = false) (D : gD) (g0 : gG) (a0 : Nat) (a1 : Nat) (p2 : Int64) (w : gW) (r : (String ⊕ Int32) × gW) (h : f_Me_distance g0 a0 a1 p2 w = some r) : gMet l y_Me_distance (.code y_Me_distance b_Me_distance 8 (some .int)) rm_Me_distance D g0 [.ref a0, .ref a1, .long p2] w (goI r) := by
  refine gw_ofI (by decide +kernel) (Nat.le_of_ble_eq_true rfl) ?_
  intro p e s m below meth c ls args A Q hx hb hml hown hlocks hin hnt hT hK hZ hA hret hexc hthr hI hl
  obtain ⟨H, hH⟩ : ∃ H, H = s.heap := ⟨_, rfl⟩
  rw [← hH] at hI ⊢
  obtain ⟨locs, hlocs⟩ : ∃ z : List Loc, z = [] := ⟨_, rfl⟩
  rw [← hlocs] at hI ⊢
  have hl : lv_has ls 8 [(0, .ref a0), (1, .ref a1), (2, .long p2)] := hl
  unfold f_Me_distance at h
  refine lv_aload_n hx hb d_Me_distance_0 rfl (lv_at hl 0 rfl) ?_
  refine lv_aload_n hx hb d_Me_distance_1 rfl (lv_at hl 1 rfl) ?_
  obtain ⟨u1, e2⟩ := gsome h
  refine gw_callI e2 h (gw_runS (As := [.ref a0, .ref a1]) (rest := []) hx hb hml hown hT hK hZ hA hI (m_Me_outlines l hst D g0 a0 a1 w u1 e2) ce_Me_outlines wd_380 ⟨by decide, by decide⟩ rfl rfl hl.1 rfl (lv_room (Nat.le_of_ble_eq_true rfl)) d_Me_distance_2 ⟨(show 0 + 0 ≤ 0 by omega), (show 0 + 0 ≤ 0 by omega)⟩) hI hA hexc (show 0 + 0 ≤ 0 by omega) (show 0 + 0 ≤ 0 by omega) (fun v3 w H locs h hI => ?_)
  refine lv_iconst (v := 1) hx hb d_Me_distance_5 (by decide) ?_
  refine lv_icmp_eq (tgt := 15) hx hb d_Me_distance_6 (by decide) (fun c4 => ?_) (fun c4 => ?_)
  · skip
    have h := git c4 h
    refine lv_aload_n hx hb d_Me_distance_15 rfl (lv_at hl 0 rfl) ?_
    obtain ⟨v5, e6, h⟩ := gb h
    refine gw_getI hx hb hT hown hK hI (ci := 3) rfl i_3 0 (by decide) wd_130 (fun _ h9 => h9) e6 d_Me_distance_16 ?_
    refine lv_iconst (v := 2) hx hb d_Me_distance_19 (by decide) ?_
    refine lv_icmp_ne (tgt := 39) hx hb d_Me_distance_20 (by decide) (fun c7 => ?_) (fun c7 => ?_)
    · skip
      have h := gie c7 h
      refine lv_aload_n hx hb d_Me_distance_39 rfl (lv_at hl 1 rfl) ?_
      obtain ⟨v8, e9, h⟩ := gb h
      refine gw_getI hx hb hT hown hK hI (ci := 3) rfl i_3 0 (by decide) wd_130 (fun _ h9 => h9) e9 d_Me_distance_40 ?_
      refine lv_iconst (v := 2) hx hb d_Me_distance_43 (by decide) ?_
      refine lv_icmp_ne (tgt := 63) hx hb d_Me_distance_44 (by decide) (fun c10 => ?_) (fun c10 => ?_)
      · skip
        have h := gie c10 h
        refine lv_aload_n hx hb d_Me_distance_63 rfl (lv_at hl 0 rfl) ?_
        obtain ⟨v11, e12, h⟩ := gb h
        refine gw_getJ hx hb hT hown hK hI (ci := 3) rfl i_3 6 (by decide) wd_141 (fun _ h9 => h9) e12 d_Me_distance_64 ?_
        refine lv_aload_n hx hb d_Me_distance_67 rfl (lv_at hl 0 rfl) ?_
        obtain ⟨v13, e14, h⟩ := gb h
        refine gw_getJ hx hb hT hown hK hI (ci := 3) rfl i_3 9 (by decide) wd_147 (fun _ h9 => h9) e14 d_Me_distance_68 ?_
        refine lv_aload_n hx hb d_Me_distance_71 rfl (lv_at hl 1 rfl) ?_
        obtain ⟨v15, e16, h⟩ := gb h
        refine gw_getJ hx hb hT hown hK hI (ci := 3) rfl i_3 6 (by decide) wd_141 (fun _ h9 => h9) e16 d_Me_distance_72 ?_
        refine lv_aload_n hx hb d_Me_distance_75 rfl (lv_at hl 1 rfl) ?_
        obtain ⟨v17, e18, h⟩ := gb h
        refine gw_getJ hx hb hT hown hK hI (ci := 3) rfl i_3 9 (by decide) wd_147 (fun _ h9 => h9) e18 d_Me_distance_76 ?_
        obtain ⟨u19, e20⟩ := gsome h
        refine gw_callJ e20 h (gw_runS (As := [.long v11, .long v13, .long v15, .long v17]) (rest := []) hx hb hml hown hT hK hZ hA hI (m_Me_gap l hst D g0 v11 v13 v15 v17 w u19 e20) ce_Me_gap wd_376 ⟨by decide, by decide⟩ rfl rfl hl.1 rfl (lv_room (Nat.le_of_ble_eq_true rfl)) d_Me_distance_79 ⟨(show 0 + 0 ≤ 0 by omega), (show 0 + 0 ≤ 0 by omega)⟩) hI hA hexc (show 0 + 0 ≤ 0 by omega) (show 0 + 0 ≤ 0 by omega) (fun v21 w H locs h hI => ?_)
        refine lv_lstore (lv' := [(4, .long v21), (0, .ref a0), (1, .ref a1), (2, .long p2)]) hx hb d_Me_distance_82 hl (by decide) rfl (fun ls hl => ?_)
        refine lv_aload_n hx hb d_Me_distance_84 rfl (lv_at hl 1 rfl) ?_
        obtain ⟨v22, e23, h⟩ := gb h
        refine gw_getJ hx hb hT hown hK hI (ci := 3) rfl i_3 7 (by decide) wd_143 (fun _ h9 => h9) e23 d_Me_distance_85 ?_
        refine lv_aload_n hx hb d_Me_distance_88 rfl (lv_at hl 1 rfl) ?_
        obtain ⟨v24, e25, h⟩ := gb h
        refine gw_getJ hx hb hT hown hK hI (ci := 3) rfl i_3 10 (by decide) wd_149 (fun _ h9 => h9) e25 d_Me_distance_89 ?_
        refine lv_aload_n hx hb d_Me_distance_92 rfl (lv_at hl 2 rfl) ?_
        obtain ⟨v26, e27, h⟩ := gb h
        refine gw_getJ hx hb hT hown hK hI (ci := 3) rfl i_3 7 (by decide) wd_143 (fun _ h9 => h9) e27 d_Me_distance_93 ?_
        refine lv_aload_n hx hb d_Me_distance_96 rfl (lv_at hl 2 rfl) ?_
        obtain ⟨v28, e29, h⟩ := gb h
        refine gw_getJ hx hb hT hown hK hI (ci := 3) rfl i_3 10 (by decide) wd_149 (fun _ h9 => h9) e29 d_Me_distance_97 ?_
        obtain ⟨u30, e31⟩ := gsome h
        refine gw_callJ e31 h (gw_runS (As := [.long v22, .long v24, .long v26, .long v28]) (rest := []) hx hb hml hown hT hK hZ hA hI (m_Me_gap l hst D g0 v22 v24 v26 v28 w u30 e31) ce_Me_gap wd_376 ⟨by decide, by decide⟩ rfl rfl hl.1 rfl (lv_room (Nat.le_of_ble_eq_true rfl)) d_Me_distance_100 ⟨(show 0 + 0 ≤ 0 by omega), (show 0 + 0 ≤ 0 by omega)⟩) hI hA hexc (show 0 + 0 ≤ 0 by omega) (show 0 + 0 ≤ 0 by omega) (fun v32 w H locs h hI => ?_)
        refine lv_lstore (lv' := [(6, .long v32), (4, .long v21), (0, .ref a0), (1, .ref a1), (2, .long p2)]) hx hb d_Me_distance_103 hl (by decide) rfl (fun ls hl => ?_)
        refine lv_lload hx hb d_Me_distance_105 (lv_at hl 1 rfl) ?_
        obtain ⟨u33, e34⟩ := gsome h
        refine gw_callJ e34 h (gw_runS (As := [.long v21]) (rest := []) hx hb hml hown hT hK hZ hA hI (m_Me_squareIfAbove l hst D g0 v21 w u33 e34) ce_Me_squareIfAbove wd_397 ⟨by decide, by decide⟩ rfl rfl hl.1 rfl (lv_room (Nat.le_of_ble_eq_true rfl)) d_Me_distance_107 ⟨(show 0 + 0 ≤ 0 by omega), (show 0 + 0 ≤ 0 by omega)⟩) hI hA hexc (show 0 + 0 ≤ 0 by omega) (show 0 + 0 ≤ 0 by omega) (fun v35 w H locs h hI => ?_)
        refine lv_lload hx hb d_Me_distance_110 (lv_at hl 0 rfl) ?_
        obtain ⟨u36, e37⟩ := gsome h
        refine gw_callJ e37 h (gw_runS (As := [.long v32]) (rest := [.long v35]) hx hb hml hown hT hK hZ hA hI (m_Me_squareIfAbove l hst D g0 v32 w u36 e37) ce_Me_squareIfAbove wd_397 ⟨by decide, by decide⟩ rfl rfl hl.1 rfl (lv_room (Nat.le_of_ble_eq_true rfl)) d_Me_distance_112 ⟨(show 0 + 0 ≤ 0 by omega), (show 0 + 0 ≤ 0 by omega)⟩) hI hA hexc (show 0 + 0 ≤ 0 by omega) (show 0 + 0 ≤ 0 by omega) (fun v38 w H locs h hI => ?_)
        refine lv_ladd hx hb d_Me_distance_115 ?_
        refine lv_lload_n hx hb d_Me_distance_116 rfl (lv_at hl 4 rfl) ?_
        refine lv_lsub hx hb d_Me_distance_117 ?_
        obtain ⟨u39, e40⟩ := gsome h
        refine gw_callI e40 h (gw_runS (As := [.long ((v35 + v38) - p2)]) (rest := []) hx hb hml hown hT hK hZ hA hI (m_Me_sign l hst D g0 ((v35 + v38) - p2) w u39 e40) ce_Me_sign wd_383 ⟨by decide, by decide⟩ rfl rfl hl.1 rfl (lv_room (Nat.le_of_ble_eq_true rfl)) d_Me_distance_118 ⟨(show 0 + 0 ≤ 0 by omega), (show 0 + 0 ≤ 0 by omega)⟩) hI hA hexc (show 0 + 0 ≤ 0 by omega) (show 0 + 0 ≤ 0 by omega) (fun v41 w H locs h hI => ?_)
        exact W.widen (show 0 ≤ 0 by omega) (show 0 ≤ 0 by omega) (hret _ _ (Option.some.inj h).symm _ _ _ _ d_Me_distance_121 hI)
      · skip
        have h := git c10 h
        refine lv_aload_n hx hb d_Me_distance_47 rfl (lv_at hl 1 rfl) ?_
        refine lv_aload_n hx hb d_Me_distance_48 rfl (lv_at hl 0 rfl) ?_
        refine lv_lload_n hx hb d_Me_distance_49 rfl (lv_at hl 2 rfl) ?_
        obtain ⟨u42, e43⟩ := gsome h
        refine gw_callI e43 h (gw_runS (As := [.ref a1, .ref a0, .long p2]) (rest := []) hx hb hml hown hT hK hZ hA hI (m_Me_cornersDistance l hst D g0 a1 a0 p2 w u42 e43) ce_Me_cornersDistance wd_394 ⟨by decide, by decide⟩ rfl rfl hl.1 rfl (lv_room (Nat.le_of_ble_eq_true rfl)) d_Me_distance_50 ⟨(show 0 + 0 ≤ 0 by omega), (show 0 + 0 ≤ 0 by omega)⟩) hI hA hexc (show 0 + 0 ≤ 0 by omega) (show 0 + 0 ≤ 0 by omega) (fun v44 w H locs h hI => ?_)
        refine lv_aload_n hx hb d_Me_distance_53 rfl (lv_at hl 1 rfl) ?_
        refine lv_aload_n hx hb d_Me_distance_54 rfl (lv_at hl 0 rfl) ?_
        refine lv_lload_n hx hb d_Me_distance_55 rfl (lv_at hl 2 rfl) ?_
        obtain ⟨u45, e46⟩ := gsome h
        refine gw_callI e46 h (gw_runS (As := [.ref a1, .ref a0, .long p2]) (rest := [.int v44]) hx hb hml hown hT hK hZ hA hI (m_Me_sidesDistance l hst D g0 a1 a0 p2 w u45 e46) ce_Me_sidesDistance wd_400 ⟨by decide, by decide⟩ rfl rfl hl.1 rfl (lv_room (Nat.le_of_ble_eq_true rfl)) d_Me_distance_56 ⟨(show 0 + 0 ≤ 0 by omega), (show 0 + 0 ≤ 0 by omega)⟩) hI hA hexc (show 0 + 0 ≤ 0 by omega) (show 0 + 0 ≤ 0 by omega) (fun v47 w H locs h hI => ?_)
        obtain ⟨u48, e49⟩ := gsome h
        refine gw_callI e49 h (gw_runS (As := [.int v44, .int v47]) (rest := []) hx hb hml hown hT hK hZ hA hI (m_Ma_min l hst D g0 v44 v47 w u48 e49) ce_Ma_min wd_389 ⟨by decide, by decide⟩ rfl rfl hl.1 rfl (lv_room (Nat.le_of_ble_eq_true rfl)) d_Me_distance_59 ⟨(show 0 + 0 ≤ 0 by omega), (show 0 + 0 ≤ 0 by omega)⟩) hI hA hexc (show 0 + 0 ≤ 0 by omega) (show 0 + 0 ≤ 0 by omega) (fun v50 w H locs h hI => ?_)
        exact W.widen (show 0 ≤ 0 by omega) (show 0 ≤ 0 by omega) (hret _ _ (Option.some.inj h).symm _ _ _ _ d_Me_distance_62 hI)
    · skip
      have h := git c7 h
      refine lv_aload_n hx hb d_Me_distance_23 rfl (lv_at hl 0 rfl) ?_
      refine lv_aload_n hx hb d_Me_distance_24 rfl (lv_at hl 1 rfl) ?_
      refine lv_lload_n hx hb d_Me_distance_25 rfl (lv_at hl 2 rfl) ?_
      obtain ⟨u51, e52⟩ := gsome h
      refine gw_callI e52 h (gw_runS (As := [.ref a0, .ref a1, .long p2]) (rest := []) hx hb hml hown hT hK hZ hA hI (m_Me_cornersDistance l hst D g0 a0 a1 p2 w u51 e52) ce_Me_cornersDistance wd_394 ⟨by decide, by decide⟩ rfl rfl hl.1 rfl (lv_room (Nat.le_of_ble_eq_true rfl)) d_Me_distance_26 ⟨(show 0 + 0 ≤ 0 by omega), (show 0 + 0 ≤ 0 by omega)⟩) hI hA hexc (show 0 + 0 ≤ 0 by omega) (show 0 + 0 ≤ 0 by omega) (fun v53 w H locs h hI => ?_)
      refine lv_aload_n hx hb d_Me_distance_29 rfl (lv_at hl 0 rfl) ?_
      refine lv_aload_n hx hb d_Me_distance_30 rfl (lv_at hl 1 rfl) ?_
      refine lv_lload_n hx hb d_Me_distance_31 rfl (lv_at hl 2 rfl) ?_
      obtain ⟨u54, e55⟩ := gsome h
      refine gw_callI e55 h (gw_runS (As := [.ref a0, .ref a1, .long p2]) (rest := [.int v53]) hx hb hml hown hT hK hZ hA hI (m_Me_sidesDistance l hst D g0 a0 a1 p2 w u54 e55) ce_Me_sidesDistance wd_400 ⟨by decide, by decide⟩ rfl rfl hl.1 rfl (lv_room (Nat.le_of_ble_eq_true rfl)) d_Me_distance_32 ⟨(show 0 + 0 ≤ 0 by omega), (show 0 + 0 ≤ 0 by omega)⟩) hI hA hexc (show 0 + 0 ≤ 0 by omega) (show 0 + 0 ≤ 0 by omega) (fun v56 w H locs h hI => ?_)
      obtain ⟨u57, e58⟩ := gsome h
      refine gw_callI e58 h (gw_runS (As := [.int v53, .int v56]) (rest := []) hx hb hml hown hT hK hZ hA hI (m_Ma_min l hst D g0 v53 v56 w u57 e58) ce_Ma_min wd_389 ⟨by decide, by decide⟩ rfl rfl hl.1 rfl (lv_room (Nat.le_of_ble_eq_true rfl)) d_Me_distance_35 ⟨(show 0 + 0 ≤ 0 by omega), (show 0 + 0 ≤ 0 by omega)⟩) hI hA hexc (show 0 + 0 ≤ 0 by omega) (show 0 + 0 ≤ 0 by omega) (fun v59 w H locs h hI => ?_)
      exact W.widen (show 0 ≤ 0 by omega) (show 0 ≤ 0 by omega) (hret _ _ (Option.some.inj h).symm _ _ _ _ d_Me_distance_38 hI)
  · skip
    have h := gie c4 h
    refine lv_lload_n hx hb d_Me_distance_9 rfl (lv_at hl 2 rfl) ?_
    refine lv_lneg hx hb d_Me_distance_10 ?_
    obtain ⟨u60, e61⟩ := gsome h
    refine gw_callI e61 h (gw_runS (As := [.long (-p2)]) (rest := []) hx hb hml hown hT hK hZ hA hI (m_Me_sign l hst D g0 (-p2) w u60 e61) ce_Me_sign wd_383 ⟨by decide, by decide⟩ rfl rfl hl.1 rfl (lv_room (Nat.le_of_ble_eq_true rfl)) d_Me_distance_11 ⟨(show 0 + 0 ≤ 0 by omega), (show 0 + 0 ≤ 0 by omega)⟩) hI hA hexc (show 0 + 0 ≤ 0 by omega) (show 0 + 0 ≤ 0 by omega) (fun v62 w H locs h hI => ?_)
    exact W.widen (show 0 ≤ 0 by omega) (show 0 ≤ 0 by omega) (hret _ _ (Option.some.inj h).symm _ _ _ _ d_Me_distance_14 hI)

abbrev b_Me_discAndRound : ByteArray := prog_5_method_12_code
def y_Me_discAndRound : MethodName := ⟨"BodySolids$Meeting", "discAndRound", "(JJJ)I"⟩
theorem d_Me_discAndRound_0 : decode b_Me_discAndRound 0 = .ok (.lload_n 0, 1) := by decide +kernel
theorem d_Me_discAndRound_1 : decode b_Me_discAndRound 1 = .ok (.lload_n 2, 1) := by decide +kernel
theorem d_Me_discAndRound_2 : decode b_Me_discAndRound 2 = .ok (.lload_n 2, 1) := by decide +kernel
theorem d_Me_discAndRound_3 : decode b_Me_discAndRound 3 = .ok (.lmul, 1) := by decide +kernel
theorem d_Me_discAndRound_4 : decode b_Me_discAndRound 4 = .ok (.lcmp, 1) := by decide +kernel
theorem d_Me_discAndRound_5 : decode b_Me_discAndRound 5 = .ok (.ifCond .gt 10, 3) := by decide +kernel
theorem d_Me_discAndRound_8 : decode b_Me_discAndRound 8 = .ok (.lload 4, 2) := by decide +kernel
theorem d_Me_discAndRound_10 : decode b_Me_discAndRound 10 = .ok (.lneg, 1) := by decide +kernel
theorem d_Me_discAndRound_11 : decode b_Me_discAndRound 11 = .ok (.invokestatic 50, 3) := by decide +kernel
theorem d_Me_discAndRound_14 : decode b_Me_discAndRound 14 = .ok (.ireturn, 1) := by decide +kernel
theorem d_Me_discAndRound_15 : decode b_Me_discAndRound 15 = .ok (.lload_n 0, 1) := by decide +kernel
theorem d_Me_discAndRound_16 : decode b_Me_discAndRound 16 = .ok (.lload_n 2, 1) := by decide +kernel
theorem d_Me_discAndRound_17 : decode b_Me_discAndRound 17 = .ok (.lload_n 2, 1) := by decide +kernel
theorem d_Me_discAndRound_18 : decode b_Me_discAndRound 18 = .ok (.lmul, 1) := by decide +kernel
theorem d_Me_discAndRound_19 : decode b_Me_discAndRound 19 = .ok (.ladd, 1) := by decide +kernel
theorem d_Me_discAndRound_20 : decode b_Me_discAndRound 20 = .ok (.lload 4, 2) := by decide +kernel
theorem d_Me_discAndRound_22 : decode b_Me_discAndRound 22 = .ok (.lsub, 1) := by decide +kernel
theorem d_Me_discAndRound_23 : decode b_Me_discAndRound 23 = .ok (.lstore 6, 2) := by decide +kernel
theorem d_Me_discAndRound_25 : decode b_Me_discAndRound 25 = .ok (.lload 6, 2) := by decide +kernel
theorem d_Me_discAndRound_27 : decode b_Me_discAndRound 27 = .ok (.lconst 0, 1) := by decide +kernel
theorem d_Me_discAndRound_28 : decode b_Me_discAndRound 28 = .ok (.lcmp, 1) := by decide +kernel
theorem d_Me_discAndRound_29 : decode b_Me_discAndRound 29 = .ok (.ifCond .ge 5, 3) := by decide +kernel
theorem d_Me_discAndRound_32 : decode b_Me_discAndRound 32 = .ok (.iconst (-1), 1) := by decide +kernel
theorem d_Me_discAndRound_33 : decode b_Me_discAndRound 33 = .ok (.ireturn, 1) := by decide +kernel
theorem d_Me_discAndRound_34 : decode b_Me_discAndRound 34 = .ok (.lload 6, 2) := by decide +kernel
theorem d_Me_discAndRound_36 : decode b_Me_discAndRound 36 = .ok (.lload 6, 2) := by decide +kernel
theorem d_Me_discAndRound_38 : decode b_Me_discAndRound 38 = .ok (.lmul, 1) := by decide +kernel
theorem d_Me_discAndRound_39 : decode b_Me_discAndRound 39 = .ok (.ldc2_w 101, 3) := by decide +kernel
theorem d_Me_discAndRound_42 : decode b_Me_discAndRound 42 = .ok (.lload_n 2, 1) := by decide +kernel
theorem d_Me_discAndRound_43 : decode b_Me_discAndRound 43 = .ok (.lmul, 1) := by decide +kernel
theorem d_Me_discAndRound_44 : decode b_Me_discAndRound 44 = .ok (.lload_n 2, 1) := by decide +kernel
theorem d_Me_discAndRound_45 : decode b_Me_discAndRound 45 = .ok (.lmul, 1) := by decide +kernel
theorem d_Me_discAndRound_46 : decode b_Me_discAndRound 46 = .ok (.lload_n 0, 1) := by decide +kernel
theorem d_Me_discAndRound_47 : decode b_Me_discAndRound 47 = .ok (.lmul, 1) := by decide +kernel
theorem d_Me_discAndRound_48 : decode b_Me_discAndRound 48 = .ok (.lsub, 1) := by decide +kernel
theorem d_Me_discAndRound_49 : decode b_Me_discAndRound 49 = .ok (.invokestatic 50, 3) := by decide +kernel
theorem d_Me_discAndRound_52 : decode b_Me_discAndRound 52 = .ok (.ireturn, 1) := by decide +kernel
abbrev rm_Me_discAndRound : Room := { frames := 1, cells := 0, slots := 0, locals := 21 }
theorem ce_Me_discAndRound : gCe y_Me_discAndRound (.code y_Me_discAndRound b_Me_discAndRound 8 (some .int)) 8 3 true := gCe.code wd_408 wd_69 wd_407 (by decide) (by decide +kernel)
def f_Me_discAndRound (g0 : gG) (p0 : Int64) (p1 : Int64) (p2 : Int64) (w : gW) : gX Int32 := if (p1 * p1) < p0 then (if 0 ≤ ((p0 + (p1 * p1)) - p2) then (gbind (f_Me_sign g0 ((((p0 + (p1 * p1)) - p2) * ((p0 + (p1 * p1)) - p2)) - (((4 * p1) * p1) * p0)) w) fun v5 w => some (.inr v5, w)) else (some (.inr (-1), w))) else (gbind (f_Me_sign g0 (-p2) w) fun v8 w => some (.inr v8, w))
set_option maxHeartbeats 4000000 in
set_option maxRecDepth 100000 in
theorem m_Me_discAndRound (l : Launch) (hst : l.stackTraces = false) (D : gD) (g0 : gG) (p0 : Int64) (p1 : Int64) (p2 : Int64) (w : gW) (r : (String ⊕ Int32) × gW) (h : f_Me_discAndRound g0 p0 p1 p2 w = some r) : gMet l y_Me_discAndRound (.code y_Me_discAndRound b_Me_discAndRound 8 (some .int)) rm_Me_discAndRound D g0 [.long p0, .long p1, .long p2] w (goI r) := by
  refine gw_ofI (by decide +kernel) (Nat.le_of_ble_eq_true rfl) ?_
  intro p e s m below meth c ls args A Q hx hb hml hown hlocks hin hnt hT hK hZ hA hret hexc hthr hI hl
  obtain ⟨H, hH⟩ : ∃ H, H = s.heap := ⟨_, rfl⟩
  rw [← hH] at hI ⊢
  obtain ⟨locs, hlocs⟩ : ∃ z : List Loc, z = [] := ⟨_, rfl⟩
  rw [← hlocs] at hI ⊢
  have hl : lv_has ls 8 [(0, .long p0), (2, .long p1), (4, .long p2)] := hl
  unfold f_Me_discAndRound at h
  refine lv_lload_n hx hb d_Me_discAndRound_0 rfl (lv_at hl 0 rfl) ?_
  refine lv_lload_n hx hb d_Me_discAndRound_1 rfl (lv_at hl 1 rfl) ?_
  refine lv_lload_n hx hb d_Me_discAndRound_2 rfl (lv_at hl 1 rfl) ?_
  refine lv_lmul hx hb d_Me_discAndRound_3 ?_
  refine W.lcmp hx hb d_Me_discAndRound_4 ?_
  refine lv_if_gt (tgt := 15) hx hb d_Me_discAndRound_5 (by decide) (fun c1 => ?_) (fun c1 => ?_)
  · have c1 := (lg_cmp_gt _ _).mp c1
    have h := git c1 h
    refine lv_lload_n hx hb d_Me_discAndRound_15 rfl (lv_at hl 0 rfl) ?_
    refine lv_lload_n hx hb d_Me_discAndRound_16 rfl (lv_at hl 1 rfl) ?_
    refine lv_lload_n hx hb d_Me_discAndRound_17 rfl (lv_at hl 1 rfl) ?_
    refine lv_lmul hx hb d_Me_discAndRound_18 ?_
    refine lv_ladd hx hb d_Me_discAndRound_19 ?_
    refine lv_lload hx hb d_Me_discAndRound_20 (lv_at hl 2 rfl) ?_
    refine lv_lsub hx hb d_Me_discAndRound_22 ?_
    refine lv_lstore (lv' := [(6, .long ((p0 + (p1 * p1)) - p2)), (0, .long p0), (2, .long p1), (4, .long p2)]) hx hb d_Me_discAndRound_23 hl (by decide) rfl (fun ls hl => ?_)
    refine lv_lload hx hb d_Me_discAndRound_25 (lv_at hl 0 rfl) ?_
    refine lv_lconst (v := 0) hx hb d_Me_discAndRound_27 (by decide) ?_
    refine W.lcmp hx hb d_Me_discAndRound_28 ?_
    refine lv_if_ge (tgt := 34) hx hb d_Me_discAndRound_29 (by decide) (fun c2 => ?_) (fun c2 => ?_)
    · have c2 := (lg_cmp_ge _ _).mp c2
      have h := git c2 h
      refine lv_lload hx hb d_Me_discAndRound_34 (lv_at hl 0 rfl) ?_
      refine lv_lload hx hb d_Me_discAndRound_36 (lv_at hl 0 rfl) ?_
      refine lv_lmul hx hb d_Me_discAndRound_38 ?_
      refine lv_ldc2 (v := 4) hx hb hown (hT _ wd_409 args) d_Me_discAndRound_39 ?_
      refine lv_lload_n hx hb d_Me_discAndRound_42 rfl (lv_at hl 2 rfl) ?_
      refine lv_lmul hx hb d_Me_discAndRound_43 ?_
      refine lv_lload_n hx hb d_Me_discAndRound_44 rfl (lv_at hl 2 rfl) ?_
      refine lv_lmul hx hb d_Me_discAndRound_45 ?_
      refine lv_lload_n hx hb d_Me_discAndRound_46 rfl (lv_at hl 1 rfl) ?_
      refine lv_lmul hx hb d_Me_discAndRound_47 ?_
      refine lv_lsub hx hb d_Me_discAndRound_48 ?_
      obtain ⟨u3, e4⟩ := gsome h
      refine gw_callI e4 h (gw_runS (As := [.long ((((p0 + (p1 * p1)) - p2) * ((p0 + (p1 * p1)) - p2)) - (((4 * p1) * p1) * p0))]) (rest := []) hx hb hml hown hT hK hZ hA hI (m_Me_sign l hst D g0 ((((p0 + (p1 * p1)) - p2) * ((p0 + (p1 * p1)) - p2)) - (((4 * p1) * p1) * p0)) w u3 e4) ce_Me_sign wd_383 ⟨by decide, by decide⟩ rfl rfl hl.1 rfl (lv_room (Nat.le_of_ble_eq_true rfl)) d_Me_discAndRound_49 ⟨(show 0 + 0 ≤ 0 by omega), (show 0 + 0 ≤ 0 by omega)⟩) hI hA hexc (show 0 + 0 ≤ 0 by omega) (show 0 + 0 ≤ 0 by omega) (fun v5 w H locs h hI => ?_)
      exact W.widen (show 0 ≤ 0 by omega) (show 0 ≤ 0 by omega) (hret _ _ (Option.some.inj h).symm _ _ _ _ d_Me_discAndRound_52 hI)
    · have c2 := mt (lg_cmp_ge _ _).mpr c2
      have h := gie c2 h
      refine lv_iconst (v := -1) hx hb d_Me_discAndRound_32 (by decide) ?_
      exact W.widen (show 0 ≤ 0 by omega) (show 0 ≤ 0 by omega) (hret _ _ (Option.some.inj h).symm _ _ _ _ d_Me_discAndRound_33 hI)
  · have c1 := mt (lg_cmp_gt _ _).mpr c1
    have h := gie c1 h
    refine lv_lload hx hb d_Me_discAndRound_8 (lv_at hl 2 rfl) ?_
    refine lv_lneg hx hb d_Me_discAndRound_10 ?_
    obtain ⟨u6, e7⟩ := gsome h
    refine gw_callI e7 h (gw_runS (As := [.long (-p2)]) (rest := []) hx hb hml hown hT hK hZ hA hI (m_Me_sign l hst D g0 (-p2) w u6 e7) ce_Me_sign wd_383 ⟨by decide, by decide⟩ rfl rfl hl.1 rfl (lv_room (Nat.le_of_ble_eq_true rfl)) d_Me_discAndRound_11 ⟨(show 0 + 0 ≤ 0 by omega), (show 0 + 0 ≤ 0 by omega)⟩) hI hA hexc (show 0 + 0 ≤ 0 by omega) (show 0 + 0 ≤ 0 by omega) (fun v8 w H locs h hI => ?_)
    exact W.widen (show 0 ≤ 0 by omega) (show 0 ≤ 0 by omega) (hret _ _ (Option.some.inj h).symm _ _ _ _ d_Me_discAndRound_14 hI)

abbrev b_Me_of : ByteArray := prog_5_method_2_code
def y_Me_of : MethodName := ⟨"BodySolids$Meeting", "of", "(LBodySolids$Solid;LBodySolids$Solid;)I"⟩
theorem d_Me_of_0 : decode b_Me_of 0 = .ok (.aload_n 0, 1) := by decide +kernel
theorem d_Me_of_1 : decode b_Me_of 1 = .ok (.getfield 9, 3) := by decide +kernel
theorem d_Me_of_4 : decode b_Me_of 4 = .ok (.aload_n 1, 1) := by decide +kernel
theorem d_Me_of_5 : decode b_Me_of 5 = .ok (.getfield 9, 3) := by decide +kernel
theorem d_Me_of_8 : decode b_Me_of 8 = .ok (.ladd, 1) := by decide +kernel
theorem d_Me_of_9 : decode b_Me_of 9 = .ok (.lstore_n 2, 1) := by decide +kernel
theorem d_Me_of_10 : decode b_Me_of 10 = .ok (.aload_n 0, 1) := by decide +kernel
theorem d_Me_of_11 : decode b_Me_of 11 = .ok (.getfield 15, 3) := by decide +kernel
theorem d_Me_of_14 : decode b_Me_of 14 = .ok (.aload_n 1, 1) := by decide +kernel
theorem d_Me_of_15 : decode b_Me_of 15 = .ok (.getfield 15, 3) := by decide +kernel
theorem d_Me_of_18 : decode b_Me_of 18 = .ok (.ladd, 1) := by decide +kernel
theorem d_Me_of_19 : decode b_Me_of 19 = .ok (.lstore 4, 2) := by decide +kernel
theorem d_Me_of_21 : decode b_Me_of 21 = .ok (.aload_n 0, 1) := by decide +kernel
theorem d_Me_of_22 : decode b_Me_of 22 = .ok (.getfield 18, 3) := by decide +kernel
theorem d_Me_of_25 : decode b_Me_of 25 = .ok (.aload_n 0, 1) := by decide +kernel
theorem d_Me_of_26 : decode b_Me_of 26 = .ok (.getfield 21, 3) := by decide +kernel
theorem d_Me_of_29 : decode b_Me_of 29 = .ok (.aload_n 1, 1) := by decide +kernel
theorem d_Me_of_30 : decode b_Me_of 30 = .ok (.getfield 18, 3) := by decide +kernel
theorem d_Me_of_33 : decode b_Me_of 33 = .ok (.aload_n 1, 1) := by decide +kernel
theorem d_Me_of_34 : decode b_Me_of 34 = .ok (.getfield 21, 3) := by decide +kernel
theorem d_Me_of_37 : decode b_Me_of 37 = .ok (.invokestatic 24, 3) := by decide +kernel
theorem d_Me_of_40 : decode b_Me_of 40 = .ok (.lstore 6, 2) := by decide +kernel
theorem d_Me_of_42 : decode b_Me_of 42 = .ok (.aload_n 0, 1) := by decide +kernel
theorem d_Me_of_43 : decode b_Me_of 43 = .ok (.getfield 30, 3) := by decide +kernel
theorem d_Me_of_46 : decode b_Me_of 46 = .ok (.aload_n 0, 1) := by decide +kernel
theorem d_Me_of_47 : decode b_Me_of 47 = .ok (.getfield 33, 3) := by decide +kernel
theorem d_Me_of_50 : decode b_Me_of 50 = .ok (.aload_n 1, 1) := by decide +kernel
theorem d_Me_of_51 : decode b_Me_of 51 = .ok (.getfield 30, 3) := by decide +kernel
theorem d_Me_of_54 : decode b_Me_of 54 = .ok (.aload_n 1, 1) := by decide +kernel
theorem d_Me_of_55 : decode b_Me_of 55 = .ok (.getfield 33, 3) := by decide +kernel
theorem d_Me_of_58 : decode b_Me_of 58 = .ok (.invokestatic 24, 3) := by decide +kernel
theorem d_Me_of_61 : decode b_Me_of 61 = .ok (.lstore 8, 2) := by decide +kernel
theorem d_Me_of_63 : decode b_Me_of 63 = .ok (.aload_n 0, 1) := by decide +kernel
theorem d_Me_of_64 : decode b_Me_of 64 = .ok (.getfield 36, 3) := by decide +kernel
theorem d_Me_of_67 : decode b_Me_of 67 = .ok (.aload_n 0, 1) := by decide +kernel
theorem d_Me_of_68 : decode b_Me_of 68 = .ok (.getfield 39, 3) := by decide +kernel
theorem d_Me_of_71 : decode b_Me_of 71 = .ok (.aload_n 1, 1) := by decide +kernel
theorem d_Me_of_72 : decode b_Me_of 72 = .ok (.getfield 36, 3) := by decide +kernel
theorem d_Me_of_75 : decode b_Me_of 75 = .ok (.aload_n 1, 1) := by decide +kernel
theorem d_Me_of_76 : decode b_Me_of 76 = .ok (.getfield 39, 3) := by decide +kernel
theorem d_Me_of_79 : decode b_Me_of 79 = .ok (.invokestatic 24, 3) := by decide +kernel
theorem d_Me_of_82 : decode b_Me_of 82 = .ok (.lstore 10, 2) := by decide +kernel
theorem d_Me_of_84 : decode b_Me_of 84 = .ok (.lload 6, 2) := by decide +kernel
theorem d_Me_of_86 : decode b_Me_of 86 = .ok (.lload_n 2, 1) := by decide +kernel
theorem d_Me_of_87 : decode b_Me_of 87 = .ok (.lload 4, 2) := by decide +kernel
theorem d_Me_of_89 : decode b_Me_of 89 = .ok (.ladd, 1) := by decide +kernel
theorem d_Me_of_90 : decode b_Me_of 90 = .ok (.lcmp, 1) := by decide +kernel
theorem d_Me_of_91 : decode b_Me_of 91 = .ok (.ifCond .gt 21, 3) := by decide +kernel
theorem d_Me_of_94 : decode b_Me_of 94 = .ok (.lload 8, 2) := by decide +kernel
theorem d_Me_of_96 : decode b_Me_of 96 = .ok (.lload_n 2, 1) := by decide +kernel
theorem d_Me_of_97 : decode b_Me_of 97 = .ok (.lload 4, 2) := by decide +kernel
theorem d_Me_of_99 : decode b_Me_of 99 = .ok (.ladd, 1) := by decide +kernel
theorem d_Me_of_100 : decode b_Me_of 100 = .ok (.lcmp, 1) := by decide +kernel
theorem d_Me_of_101 : decode b_Me_of 101 = .ok (.ifCond .gt 11, 3) := by decide +kernel
theorem d_Me_of_104 : decode b_Me_of 104 = .ok (.lload 10, 2) := by decide +kernel
theorem d_Me_of_106 : decode b_Me_of 106 = .ok (.lload 4, 2) := by decide +kernel
theorem d_Me_of_108 : decode b_Me_of 108 = .ok (.lcmp, 1) := by decide +kernel
theorem d_Me_of_109 : decode b_Me_of 109 = .ok (.ifCond .le 5, 3) := by decide +kernel
theorem d_Me_of_112 : decode b_Me_of 112 = .ok (.iconst 1, 1) := by decide +kernel
theorem d_Me_of_113 : decode b_Me_of 113 = .ok (.ireturn, 1) := by decide +kernel
theorem d_Me_of_114 : decode b_Me_of 114 = .ok (.lload 4, 2) := by decide +kernel
theorem d_Me_of_116 : decode b_Me_of 116 = .ok (.lconst 0, 1) := by decide +kernel
theorem d_Me_of_117 : decode b_Me_of 117 = .ok (.lcmp, 1) := by decide +kernel
theorem d_Me_of_118 : decode b_Me_of 118 = .ok (.ifCond .ne 38, 3) := by decide +kernel
theorem d_Me_of_121 : decode b_Me_of 121 = .ok (.lload_n 2, 1) := by decide +kernel
theorem d_Me_of_122 : decode b_Me_of 122 = .ok (.lconst 0, 1) := by decide +kernel
theorem d_Me_of_123 : decode b_Me_of 123 = .ok (.lcmp, 1) := by decide +kernel
theorem d_Me_of_124 : decode b_Me_of 124 = .ok (.ifCond .ne 11, 3) := by decide +kernel
theorem d_Me_of_127 : decode b_Me_of 127 = .ok (.aload_n 0, 1) := by decide +kernel
theorem d_Me_of_128 : decode b_Me_of 128 = .ok (.aload_n 1, 1) := by decide +kernel
theorem d_Me_of_129 : decode b_Me_of 129 = .ok (.invokestatic 42, 3) := by decide +kernel
theorem d_Me_of_132 : decode b_Me_of 132 = .ok (.goto 11, 3) := by decide +kernel
theorem d_Me_of_135 : decode b_Me_of 135 = .ok (.aload_n 0, 1) := by decide +kernel
theorem d_Me_of_136 : decode b_Me_of 136 = .ok (.aload_n 1, 1) := by decide +kernel
theorem d_Me_of_137 : decode b_Me_of 137 = .ok (.lload_n 2, 1) := by decide +kernel
theorem d_Me_of_138 : decode b_Me_of 138 = .ok (.lload_n 2, 1) := by decide +kernel
theorem d_Me_of_139 : decode b_Me_of 139 = .ok (.lmul, 1) := by decide +kernel
theorem d_Me_of_140 : decode b_Me_of 140 = .ok (.invokestatic 46, 3) := by decide +kernel
theorem d_Me_of_143 : decode b_Me_of 143 = .ok (.istore 12, 2) := by decide +kernel
theorem d_Me_of_145 : decode b_Me_of 145 = .ok (.iload 12, 2) := by decide +kernel
theorem d_Me_of_147 : decode b_Me_of 147 = .ok (.lload 10, 2) := by decide +kernel
theorem d_Me_of_149 : decode b_Me_of 149 = .ok (.invokestatic 50, 3) := by decide +kernel
theorem d_Me_of_152 : decode b_Me_of 152 = .ok (.invokestatic 54, 3) := by decide +kernel
theorem d_Me_of_155 : decode b_Me_of 155 = .ok (.ireturn, 1) := by decide +kernel
theorem d_Me_of_156 : decode b_Me_of 156 = .ok (.lload 4, 2) := by decide +kernel
theorem d_Me_of_158 : decode b_Me_of 158 = .ok (.lload 4, 2) := by decide +kernel
theorem d_Me_of_160 : decode b_Me_of 160 = .ok (.lmul, 1) := by decide +kernel
theorem d_Me_of_161 : decode b_Me_of 161 = .ok (.lload 10, 2) := by decide +kernel
theorem d_Me_of_163 : decode b_Me_of 163 = .ok (.invokestatic 60, 3) := by decide +kernel
theorem d_Me_of_166 : decode b_Me_of 166 = .ok (.lsub, 1) := by decide +kernel
theorem d_Me_of_167 : decode b_Me_of 167 = .ok (.lstore 12, 2) := by decide +kernel
theorem d_Me_of_169 : decode b_Me_of 169 = .ok (.lload_n 2, 1) := by decide +kernel
theorem d_Me_of_170 : decode b_Me_of 170 = .ok (.lconst 0, 1) := by decide +kernel
theorem d_Me_of_171 : decode b_Me_of 171 = .ok (.lcmp, 1) := by decide +kernel
theorem d_Me_of_172 : decode b_Me_of 172 = .ok (.ifCond .ne 11, 3) := by decide +kernel
theorem d_Me_of_175 : decode b_Me_of 175 = .ok (.aload_n 0, 1) := by decide +kernel
theorem d_Me_of_176 : decode b_Me_of 176 = .ok (.aload_n 1, 1) := by decide +kernel
theorem d_Me_of_177 : decode b_Me_of 177 = .ok (.lload 12, 2) := by decide +kernel
theorem d_Me_of_179 : decode b_Me_of 179 = .ok (.invokestatic 46, 3) := by decide +kernel
theorem d_Me_of_182 : decode b_Me_of 182 = .ok (.ireturn, 1) := by decide +kernel
theorem d_Me_of_183 : decode b_Me_of 183 = .ok (.lload 6, 2) := by decide +kernel
theorem d_Me_of_185 : decode b_Me_of 185 = .ok (.invokestatic 60, 3) := by decide +kernel
theorem d_Me_of_188 : decode b_Me_of 188 = .ok (.lload 8, 2) := by decide +kernel
theorem d_Me_of_190 : decode b_Me_of 190 = .ok (.invokestatic 60, 3) := by decide +kernel
theorem d_Me_of_193 : decode b_Me_of 193 = .ok (.ladd, 1) := by decide +kernel
theorem d_Me_of_194 : decode b_Me_of 194 = .ok (.lload_n 2, 1) := by decide +kernel
theorem d_Me_of_195 : decode b_Me_of 195 = .ok (.lload 12, 2) := by decide +kernel
theorem d_Me_of_197 : decode b_Me_of 197 = .ok (.invokestatic 64, 3) := by decide +kernel
theorem d_Me_of_200 : decode b_Me_of 200 = .ok (.ireturn, 1) := by decide +kernel
abbrev rm_Me_of : Room := { frames := 4, cells := 0, slots := 0, locals := 114 }
theorem ce_Me_of : gCe y_Me_of (.code y_Me_of b_Me_of 14 (some .int)) 14 2 true := gCe.code wd_375 wd_69 wd_374 (by decide) (by decide +kernel)
def f_Me_of (g0 : gG) (a0 : Nat) (a1 : Nat) (w : gW) : gX Int32 := (gfJ w a0 3 1).bind fun v1 => (gfJ w a1 3 1).bind fun v3 => (gfJ w a0 3 2).bind fun v5 => (gfJ w a1 3 2).bind fun v7 => (gfJ w a0 3 6).bind fun v9 => (gfJ w a0 3 9).bind fun v11 => (gfJ w a1 3 6).bind fun v13 => (gfJ w a1 3 9).bind fun v15 => gbind (f_Me_gap g0 v9 v11 v13 v15 w) fun v19 w => (gfJ w a0 3 7).bind fun v20 => (gfJ w a0 3 10).bind fun v22 => (gfJ w a1 3 7).bind fun v24 => (gfJ w a1 3 10).bind fun v26 => gbind (f_Me_gap g0 v20 v22 v24 v26 w) fun v30 w => (gfJ w a0 3 8).bind fun v31 => (gfJ w a0 3 11).bind fun v33 => (gfJ w a1 3 8).bind fun v35 => (gfJ w a1 3 11).bind fun v37 => gbind (f_Me_gap g0 v31 v33 v35 v37 w) fun v41 w => gjoin (fun K112 => if ((v1 + v3) + (v5 + v7)) < v19 then (K112 w) else (if ((v1 + v3) + (v5 + v7)) < v30 then (K112 w) else (if v41 ≤ (v5 + v7) then (if (v5 + v7) = 0 then (gjoin (fun K143 => if (v1 + v3) = 0 then (gbind (f_Me_outlines g0 a0 a1 w) fun v75 w => K143 v75 w) else (gbind (f_Me_distance g0 a0 a1 ((v1 + v3) * (v1 + v3)) w) fun v72 w => K143 v72 w)) (fun (y62 : Int32) (w : gW) => gbind (f_Me_sign g0 v41 w) fun v65 w => gbind (f_Ma_max g0 y62 v65 w) fun v68 w => some (.inr v68, w))) else (gbind (f_Me_squareIfAbove g0 v41 w) fun v48 w => if (v1 + v3) = 0 then (gbind (f_Me_distance g0 a0 a1 (((v5 + v7) * (v5 + v7)) - v48) w) fun v61 w => some (.inr v61, w)) else (gbind (f_Me_squareIfAbove g0 v19 w) fun v52 w => gbind (f_Me_squareIfAbove g0 v30 w) fun v55 w => gbind (f_Me_discAndRound g0 (v52 + v55) (v1 + v3) (((v5 + v7) * (v5 + v7)) - v48) w) fun v58 w => some (.inr v58, w)))) else (K112 w)))) (fun (w : gW) => some (.inr 1, w))
set_option maxHeartbeats 4000000 in
set_option maxRecDepth 100000 in
theorem m_Me_of (l : Launch) (hst : l.stackTraces = false) (D : gD) (g0 : gG) (a0 : Nat) (a1 : Nat) (w : gW) (r : (String ⊕ Int32) × gW) (h : f_Me_of g0 a0 a1 w = some r) : gMet l y_Me_of (.code y_Me_of b_Me_of 14 (some .int)) rm_Me_of D g0 [.ref a0, .ref a1] w (goI r) := by
  refine gw_ofI (by decide +kernel) (Nat.le_of_ble_eq_true rfl) ?_
  intro p e s m below meth c ls args A Q hx hb hml hown hlocks hin hnt hT hK hZ hA hret hexc hthr hI hl
  obtain ⟨H, hH⟩ : ∃ H, H = s.heap := ⟨_, rfl⟩
  rw [← hH] at hI ⊢
  obtain ⟨locs, hlocs⟩ : ∃ z : List Loc, z = [] := ⟨_, rfl⟩
  rw [← hlocs] at hI ⊢
  have hl : lv_has ls 14 [(0, .ref a0), (1, .ref a1)] := hl
  unfold f_Me_of at h
  refine lv_aload_n hx hb d_Me_of_0 rfl (lv_at hl 0 rfl) ?_
  obtain ⟨v1, e2, h⟩ := gb h
  refine gw_getJ hx hb hT hown hK hI (ci := 3) rfl i_3 1 (by decide) wd_131 (fun _ h9 => h9) e2 d_Me_of_1 ?_
  refine lv_aload_n hx hb d_Me_of_4 rfl (lv_at hl 1 rfl) ?_
  obtain ⟨v3, e4, h⟩ := gb h
  refine gw_getJ hx hb hT hown hK hI (ci := 3) rfl i_3 1 (by decide) wd_131 (fun _ h9 => h9) e4 d_Me_of_5 ?_
  refine lv_ladd hx hb d_Me_of_8 ?_
  refine lv_lstore_n (lv' := [(2, .long (v1 + v3)), (0, .ref a0), (1, .ref a1)]) hx hb d_Me_of_9 rfl hl (by decide) rfl (fun ls hl => ?_)
  refine lv_aload_n hx hb d_Me_of_10 rfl (lv_at hl 1 rfl) ?_
  obtain ⟨v5, e6, h⟩ := gb h
  refine gw_getJ hx hb hT hown hK hI (ci := 3) rfl i_3 2 (by decide) wd_133 (fun _ h9 => h9) e6 d_Me_of_11 ?_
  refine lv_aload_n hx hb d_Me_of_14 rfl (lv_at hl 2 rfl) ?_
  obtain ⟨v7, e8, h⟩ := gb h
  refine gw_getJ hx hb hT hown hK hI (ci := 3) rfl i_3 2 (by decide) wd_133 (fun _ h9 => h9) e8 d_Me_of_15 ?_
  refine lv_ladd hx hb d_Me_of_18 ?_
  refine lv_lstore (lv' := [(4, .long (v5 + v7)), (2, .long (v1 + v3)), (0, .ref a0), (1, .ref a1)]) hx hb d_Me_of_19 hl (by decide) rfl (fun ls hl => ?_)
  refine lv_aload_n hx hb d_Me_of_21 rfl (lv_at hl 2 rfl) ?_
  obtain ⟨v9, e10, h⟩ := gb h
  refine gw_getJ hx hb hT hown hK hI (ci := 3) rfl i_3 6 (by decide) wd_141 (fun _ h9 => h9) e10 d_Me_of_22 ?_
  refine lv_aload_n hx hb d_Me_of_25 rfl (lv_at hl 2 rfl) ?_
  obtain ⟨v11, e12, h⟩ := gb h
  refine gw_getJ hx hb hT hown hK hI (ci := 3) rfl i_3 9 (by decide) wd_147 (fun _ h9 => h9) e12 d_Me_of_26 ?_
  refine lv_aload_n hx hb d_Me_of_29 rfl (lv_at hl 3 rfl) ?_
  obtain ⟨v13, e14, h⟩ := gb h
  refine gw_getJ hx hb hT hown hK hI (ci := 3) rfl i_3 6 (by decide) wd_141 (fun _ h9 => h9) e14 d_Me_of_30 ?_
  refine lv_aload_n hx hb d_Me_of_33 rfl (lv_at hl 3 rfl) ?_
  obtain ⟨v15, e16, h⟩ := gb h
  refine gw_getJ hx hb hT hown hK hI (ci := 3) rfl i_3 9 (by decide) wd_147 (fun _ h9 => h9) e16 d_Me_of_34 ?_
  obtain ⟨u17, e18⟩ := gsome h
  refine gw_callJ e18 h (gw_runS (As := [.long v9, .long v11, .long v13, .long v15]) (rest := []) hx hb hml hown hT hK hZ hA hI (m_Me_gap l hst D g0 v9 v11 v13 v15 w u17 e18) ce_Me_gap wd_376 ⟨by decide, by decide⟩ rfl rfl hl.1 rfl (lv_room (Nat.le_of_ble_eq_true rfl)) d_Me_of_37 ⟨(show 0 + 0 ≤ 0 by omega), (show 0 + 0 ≤ 0 by omega)⟩) hI hA hexc (show 0 + 0 ≤ 0 by omega) (show 0 + 0 ≤ 0 by omega) (fun v19 w H locs h hI => ?_)
  refine lv_lstore (lv' := [(6, .long v19), (4, .long (v5 + v7)), (2, .long (v1 + v3)), (0, .ref a0), (1, .ref a1)]) hx hb d_Me_of_40 hl (by decide) rfl (fun ls hl => ?_)
  refine lv_aload_n hx hb d_Me_of_42 rfl (lv_at hl 3 rfl) ?_
  obtain ⟨v20, e21, h⟩ := gb h
  refine gw_getJ hx hb hT hown hK hI (ci := 3) rfl i_3 7 (by decide) wd_143 (fun _ h9 => h9) e21 d_Me_of_43 ?_
  refine lv_aload_n hx hb d_Me_of_46 rfl (lv_at hl 3 rfl) ?_
  obtain ⟨v22, e23, h⟩ := gb h
  refine gw_getJ hx hb hT hown hK hI (ci := 3) rfl i_3 10 (by decide) wd_149 (fun _ h9 => h9) e23 d_Me_of_47 ?_
  refine lv_aload_n hx hb d_Me_of_50 rfl (lv_at hl 4 rfl) ?_
  obtain ⟨v24, e25, h⟩ := gb h
  refine gw_getJ hx hb hT hown hK hI (ci := 3) rfl i_3 7 (by decide) wd_143 (fun _ h9 => h9) e25 d_Me_of_51 ?_
  refine lv_aload_n hx hb d_Me_of_54 rfl (lv_at hl 4 rfl) ?_
  obtain ⟨v26, e27, h⟩ := gb h
  refine gw_getJ hx hb hT hown hK hI (ci := 3) rfl i_3 10 (by decide) wd_149 (fun _ h9 => h9) e27 d_Me_of_55 ?_
  obtain ⟨u28, e29⟩ := gsome h
  refine gw_callJ e29 h (gw_runS (As := [.long v20, .long v22, .long v24, .long v26]) (rest := []) hx hb hml hown hT hK hZ hA hI (m_Me_gap l hst D g0 v20 v22 v24 v26 w u28 e29) ce_Me_gap wd_376 ⟨by decide, by decide⟩ rfl rfl hl.1 rfl (lv_room (Nat.le_of_ble_eq_true rfl)) d_Me_of_58 ⟨(show 0 + 0 ≤ 0 by omega), (show 0 + 0 ≤ 0 by omega)⟩) hI hA hexc (show 0 + 0 ≤ 0 by omega) (show 0 + 0 ≤ 0 by omega) (fun v30 w H locs h hI => ?_)
  refine lv_lstore (lv' := [(8, .long v30), (6, .long v19), (4, .long (v5 + v7)), (2, .long (v1 + v3)), (0, .ref a0), (1, .ref a1)]) hx hb d_Me_of_61 hl (by decide) rfl (fun ls hl => ?_)
  refine lv_aload_n hx hb d_Me_of_63 rfl (lv_at hl 4 rfl) ?_
  obtain ⟨v31, e32, h⟩ := gb h
  refine gw_getJ hx hb hT hown hK hI (ci := 3) rfl i_3 8 (by decide) wd_145 (fun _ h9 => h9) e32 d_Me_of_64 ?_
  refine lv_aload_n hx hb d_Me_of_67 rfl (lv_at hl 4 rfl) ?_
  obtain ⟨v33, e34, h⟩ := gb h
  refine gw_getJ hx hb hT hown hK hI (ci := 3) rfl i_3 11 (by decide) wd_151 (fun _ h9 => h9) e34 d_Me_of_68 ?_
  refine lv_aload_n hx hb d_Me_of_71 rfl (lv_at hl 5 rfl) ?_
  obtain ⟨v35, e36, h⟩ := gb h
  refine gw_getJ hx hb hT hown hK hI (ci := 3) rfl i_3 8 (by decide) wd_145 (fun _ h9 => h9) e36 d_Me_of_72 ?_
  refine lv_aload_n hx hb d_Me_of_75 rfl (lv_at hl 5 rfl) ?_
  obtain ⟨v37, e38, h⟩ := gb h
  refine gw_getJ hx hb hT hown hK hI (ci := 3) rfl i_3 11 (by decide) wd_151 (fun _ h9 => h9) e38 d_Me_of_76 ?_
  obtain ⟨u39, e40⟩ := gsome h
  refine gw_callJ e40 h (gw_runS (As := [.long v31, .long v33, .long v35, .long v37]) (rest := []) hx hb hml hown hT hK hZ hA hI (m_Me_gap l hst D g0 v31 v33 v35 v37 w u39 e40) ce_Me_gap wd_376 ⟨by decide, by decide⟩ rfl rfl hl.1 rfl (lv_room (Nat.le_of_ble_eq_true rfl)) d_Me_of_79 ⟨(show 0 + 0 ≤ 0 by omega), (show 0 + 0 ≤ 0 by omega)⟩) hI hA hexc (show 0 + 0 ≤ 0 by omega) (show 0 + 0 ≤ 0 by omega) (fun v41 w H locs h hI => ?_)
  refine lv_lstore (lv' := [(10, .long v41), (8, .long v30), (6, .long v19), (4, .long (v5 + v7)), (2, .long (v1 + v3)), (0, .ref a0), (1, .ref a1)]) hx hb d_Me_of_82 hl (by decide) rfl (fun ls hl => ?_)
  refine lv_lload hx hb d_Me_of_84 (lv_at hl 2 rfl) ?_
  refine lv_lload_n hx hb d_Me_of_86 rfl (lv_at hl 4 rfl) ?_
  refine lv_lload hx hb d_Me_of_87 (lv_at hl 3 rfl) ?_
  refine lv_ladd hx hb d_Me_of_89 ?_
  refine W.lcmp hx hb d_Me_of_90 ?_
  obtain ⟨K112, eK112, h⟩ := gj h
  have hK112 : ∀ (w : gW) (H : Heap) (locs : List Loc) (ls : Array Slot), K112 w = some r → gI D s A w H locs → lv_has ls 14 [] → W p l e rm_Me_of s m args below meth c H locs 0 0 Q (F0 m 112 ls []) := by
    intro w H locs ls h hI hl
    have h := gk1 eK112 h
    refine lv_iconst (v := 1) hx hb d_Me_of_112 (by decide) ?_
    exact W.widen (show 0 ≤ 0 by omega) (show 0 ≤ 0 by omega) (hret _ _ (Option.some.inj h).symm _ _ _ _ d_Me_of_113 hI)
  refine lv_if_gt (tgt := 112) hx hb d_Me_of_91 (by decide) (fun c42 => ?_) (fun c42 => ?_)
  · have c42 := (lg_cmp_gt _ _).mp c42
    have h := git c42 h
    exact hK112 w H locs ls h hI (lv_sub hl [] rfl)
  · have c42 := mt (lg_cmp_gt _ _).mpr c42
    have h := gie c42 h
    refine lv_lload hx hb d_Me_of_94 (lv_at hl 1 rfl) ?_
    refine lv_lload_n hx hb d_Me_of_96 rfl (lv_at hl 4 rfl) ?_
    refine lv_lload hx hb d_Me_of_97 (lv_at hl 3 rfl) ?_
    refine lv_ladd hx hb d_Me_of_99 ?_
    refine W.lcmp hx hb d_Me_of_100 ?_
    refine lv_if_gt (tgt := 112) hx hb d_Me_of_101 (by decide) (fun c43 => ?_) (fun c43 => ?_)
    · have c43 := (lg_cmp_gt _ _).mp c43
      have h := git c43 h
      exact hK112 w H locs ls h hI (lv_sub hl [] rfl)
    · have c43 := mt (lg_cmp_gt _ _).mpr c43
      have h := gie c43 h
      refine lv_lload hx hb d_Me_of_104 (lv_at hl 0 rfl) ?_
      refine lv_lload hx hb d_Me_of_106 (lv_at hl 3 rfl) ?_
      refine W.lcmp hx hb d_Me_of_108 ?_
      refine lv_if_le (tgt := 114) hx hb d_Me_of_109 (by decide) (fun c44 => ?_) (fun c44 => ?_)
      · have c44 := (lg_cmp_le _ _).mp c44
        have h := git c44 h
        refine lv_lload hx hb d_Me_of_114 (lv_at hl 3 rfl) ?_
        refine lv_lconst (v := 0) hx hb d_Me_of_116 (by decide) ?_
        refine W.lcmp hx hb d_Me_of_117 ?_
        refine lv_if_ne (tgt := 156) hx hb d_Me_of_118 (by decide) (fun c45 => ?_) (fun c45 => ?_)
        · have c45 := mt (lg_cmp_eq _ _).mpr c45
          have h := gie c45 h
          refine lv_lload hx hb d_Me_of_156 (lv_at hl 3 rfl) ?_
          refine lv_lload hx hb d_Me_of_158 (lv_at hl 3 rfl) ?_
          refine lv_lmul hx hb d_Me_of_160 ?_
          refine lv_lload hx hb d_Me_of_161 (lv_at hl 0 rfl) ?_
          obtain ⟨u46, e47⟩ := gsome h
          refine gw_callJ e47 h (gw_runS (As := [.long v41]) (rest := [.long ((v5 + v7) * (v5 + v7))]) hx hb hml hown hT hK hZ hA hI (m_Me_squareIfAbove l hst D g0 v41 w u46 e47) ce_Me_squareIfAbove wd_397 ⟨by decide, by decide⟩ rfl rfl hl.1 rfl (lv_room (Nat.le_of_ble_eq_true rfl)) d_Me_of_163 ⟨(show 0 + 0 ≤ 0 by omega), (show 0 + 0 ≤ 0 by omega)⟩) hI hA hexc (show 0 + 0 ≤ 0 by omega) (show 0 + 0 ≤ 0 by omega) (fun v48 w H locs h hI => ?_)
          refine lv_lsub hx hb d_Me_of_166 ?_
          refine lv_lstore (lv' := [(12, .long (((v5 + v7) * (v5 + v7)) - v48)), (10, .long v41), (8, .long v30), (6, .long v19), (4, .long (v5 + v7)), (2, .long (v1 + v3)), (0, .ref a0), (1, .ref a1)]) hx hb d_Me_of_167 hl (by decide) rfl (fun ls hl => ?_)
          refine lv_lload_n hx hb d_Me_of_169 rfl (lv_at hl 5 rfl) ?_
          refine lv_lconst (v := 0) hx hb d_Me_of_170 (by decide) ?_
          refine W.lcmp hx hb d_Me_of_171 ?_
          refine lv_if_ne (tgt := 183) hx hb d_Me_of_172 (by decide) (fun c49 => ?_) (fun c49 => ?_)
          · have c49 := mt (lg_cmp_eq _ _).mpr c49
            have h := gie c49 h
            refine lv_lload hx hb d_Me_of_183 (lv_at hl 3 rfl) ?_
            obtain ⟨u50, e51⟩ := gsome h
            refine gw_callJ e51 h (gw_runS (As := [.long v19]) (rest := []) hx hb hml hown hT hK hZ hA hI (m_Me_squareIfAbove l hst D g0 v19 w u50 e51) ce_Me_squareIfAbove wd_397 ⟨by decide, by decide⟩ rfl rfl hl.1 rfl (lv_room (Nat.le_of_ble_eq_true rfl)) d_Me_of_185 ⟨(show 0 + 0 ≤ 0 by omega), (show 0 + 0 ≤ 0 by omega)⟩) hI hA hexc (show 0 + 0 ≤ 0 by omega) (show 0 + 0 ≤ 0 by omega) (fun v52 w H locs h hI => ?_)
            refine lv_lload hx hb d_Me_of_188 (lv_at hl 2 rfl) ?_
            obtain ⟨u53, e54⟩ := gsome h
            refine gw_callJ e54 h (gw_runS (As := [.long v30]) (rest := [.long v52]) hx hb hml hown hT hK hZ hA hI (m_Me_squareIfAbove l hst D g0 v30 w u53 e54) ce_Me_squareIfAbove wd_397 ⟨by decide, by decide⟩ rfl rfl hl.1 rfl (lv_room (Nat.le_of_ble_eq_true rfl)) d_Me_of_190 ⟨(show 0 + 0 ≤ 0 by omega), (show 0 + 0 ≤ 0 by omega)⟩) hI hA hexc (show 0 + 0 ≤ 0 by omega) (show 0 + 0 ≤ 0 by omega) (fun v55 w H locs h hI => ?_)
            refine lv_ladd hx hb d_Me_of_193 ?_
            refine lv_lload_n hx hb d_Me_of_194 rfl (lv_at hl 5 rfl) ?_
            refine lv_lload hx hb d_Me_of_195 (lv_at hl 0 rfl) ?_
            obtain ⟨u56, e57⟩ := gsome h
            refine gw_callI e57 h (gw_runS (As := [.long (v52 + v55), .long (v1 + v3), .long (((v5 + v7) * (v5 + v7)) - v48)]) (rest := []) hx hb hml hown hT hK hZ hA hI (m_Me_discAndRound l hst D g0 (v52 + v55) (v1 + v3) (((v5 + v7) * (v5 + v7)) - v48) w u56 e57) ce_Me_discAndRound wd_406 ⟨by decide, by decide⟩ rfl rfl hl.1 rfl (lv_room (Nat.le_of_ble_eq_true rfl)) d_Me_of_197 ⟨(show 0 + 0 ≤ 0 by omega), (show 0 + 0 ≤ 0 by omega)⟩) hI hA hexc (show 0 + 0 ≤ 0 by omega) (show 0 + 0 ≤ 0 by omega) (fun v58 w H locs h hI => ?_)
            exact W.widen (show 0 ≤ 0 by omega) (show 0 ≤ 0 by omega) (hret _ _ (Option.some.inj h).symm _ _ _ _ d_Me_of_200 hI)
          · have c49 := (lg_cmp_eq _ _).mp c49
            have h := git c49 h
            refine lv_aload_n hx hb d_Me_of_175 rfl (lv_at hl 6 rfl) ?_
            refine lv_aload_n hx hb d_Me_of_176 rfl (lv_at hl 7 rfl) ?_
            refine lv_lload hx hb d_Me_of_177 (lv_at hl 0 rfl) ?_
            obtain ⟨u59, e60⟩ := gsome h
            refine gw_callI e60 h (gw_runS (As := [.ref a0, .ref a1, .long (((v5 + v7) * (v5 + v7)) - v48)]) (rest := []) hx hb hml hown hT hK hZ hA hI (m_Me_distance l hst D g0 a0 a1 (((v5 + v7) * (v5 + v7)) - v48) w u59 e60) ce_Me_distance wd_391 ⟨by decide, by decide⟩ rfl rfl hl.1 rfl (lv_room (Nat.le_of_ble_eq_true rfl)) d_Me_of_179 ⟨(show 0 + 0 ≤ 0 by omega), (show 0 + 0 ≤ 0 by omega)⟩) hI hA hexc (show 0 + 0 ≤ 0 by omega) (show 0 + 0 ≤ 0 by omega) (fun v61 w H locs h hI => ?_)
            exact W.widen (show 0 ≤ 0 by omega) (show 0 ≤ 0 by omega) (hret _ _ (Option.some.inj h).symm _ _ _ _ d_Me_of_182 hI)
        · have c45 := (lg_cmp_eq _ _).mp c45
          have h := git c45 h
          refine lv_lload_n hx hb d_Me_of_121 rfl (lv_at hl 4 rfl) ?_
          refine lv_lconst (v := 0) hx hb d_Me_of_122 (by decide) ?_
          refine W.lcmp hx hb d_Me_of_123 ?_
          obtain ⟨K143, eK143, h⟩ := gj h
          have hK143 : ∀ (y62 : Int32) (w : gW) (H : Heap) (locs : List Loc) (ls : Array Slot), K143 y62 w = some r → gI D s A w H locs → lv_has ls 14 [(10, .long v41)] → W p l e rm_Me_of s m args below meth c H locs 0 0 Q (F0 m 143 ls [.int y62]) := by
            intro y62 w H locs ls h hI hl
            have h := gk2 eK143 h
            refine lv_istore (lv' := [(12, .int y62), (10, .long v41)]) hx hb d_Me_of_143 hl (by decide) rfl (fun ls hl => ?_)
            refine lv_iload hx hb d_Me_of_145 (lv_at hl 0 rfl) ?_
            refine lv_lload hx hb d_Me_of_147 (lv_at hl 1 rfl) ?_
            obtain ⟨u63, e64⟩ := gsome h
            refine gw_callI e64 h (gw_runS (As := [.long v41]) (rest := [.int y62]) hx hb hml hown hT hK hZ hA hI (m_Me_sign l hst D g0 v41 w u63 e64) ce_Me_sign wd_383 ⟨by decide, by decide⟩ rfl rfl hl.1 rfl (lv_room (Nat.le_of_ble_eq_true rfl)) d_Me_of_149 ⟨(show 0 + 0 ≤ 0 by omega), (show 0 + 0 ≤ 0 by omega)⟩) hI hA hexc (show 0 + 0 ≤ 0 by omega) (show 0 + 0 ≤ 0 by omega) (fun v65 w H locs h hI => ?_)
            obtain ⟨u66, e67⟩ := gsome h
            refine gw_callI e67 h (gw_runS (As := [.int y62, .int v65]) (rest := []) hx hb hml hown hT hK hZ hA hI (m_Ma_max l hst D g0 y62 v65 w u66 e67) ce_Ma_max wd_390 ⟨by decide, by decide⟩ rfl rfl hl.1 rfl (lv_room (Nat.le_of_ble_eq_true rfl)) d_Me_of_152 ⟨(show 0 + 0 ≤ 0 by omega), (show 0 + 0 ≤ 0 by omega)⟩) hI hA hexc (show 0 + 0 ≤ 0 by omega) (show 0 + 0 ≤ 0 by omega) (fun v68 w H locs h hI => ?_)
            exact W.widen (show 0 ≤ 0 by omega) (show 0 ≤ 0 by omega) (hret _ _ (Option.some.inj h).symm _ _ _ _ d_Me_of_155 hI)
          refine lv_if_ne (tgt := 135) hx hb d_Me_of_124 (by decide) (fun c69 => ?_) (fun c69 => ?_)
          · have c69 := mt (lg_cmp_eq _ _).mpr c69
            have h := gie c69 h
            refine lv_aload_n hx hb d_Me_of_135 rfl (lv_at hl 5 rfl) ?_
            refine lv_aload_n hx hb d_Me_of_136 rfl (lv_at hl 6 rfl) ?_
            refine lv_lload_n hx hb d_Me_of_137 rfl (lv_at hl 4 rfl) ?_
            refine lv_lload_n hx hb d_Me_of_138 rfl (lv_at hl 4 rfl) ?_
            refine lv_lmul hx hb d_Me_of_139 ?_
            obtain ⟨u70, e71⟩ := gsome h
            refine gw_callI e71 h (gw_runS (As := [.ref a0, .ref a1, .long ((v1 + v3) * (v1 + v3))]) (rest := []) hx hb hml hown hT hK hZ hA hI (m_Me_distance l hst D g0 a0 a1 ((v1 + v3) * (v1 + v3)) w u70 e71) ce_Me_distance wd_391 ⟨by decide, by decide⟩ rfl rfl hl.1 rfl (lv_room (Nat.le_of_ble_eq_true rfl)) d_Me_of_140 ⟨(show 0 + 0 ≤ 0 by omega), (show 0 + 0 ≤ 0 by omega)⟩) hI hA hexc (show 0 + 0 ≤ 0 by omega) (show 0 + 0 ≤ 0 by omega) (fun v72 w H locs h hI => ?_)
            exact hK143 _ w H locs ls h hI (lv_sub hl [0] rfl)
          · have c69 := (lg_cmp_eq _ _).mp c69
            have h := git c69 h
            refine lv_aload_n hx hb d_Me_of_127 rfl (lv_at hl 5 rfl) ?_
            refine lv_aload_n hx hb d_Me_of_128 rfl (lv_at hl 6 rfl) ?_
            obtain ⟨u73, e74⟩ := gsome h
            refine gw_callI e74 h (gw_runS (As := [.ref a0, .ref a1]) (rest := []) hx hb hml hown hT hK hZ hA hI (m_Me_outlines l hst D g0 a0 a1 w u73 e74) ce_Me_outlines wd_380 ⟨by decide, by decide⟩ rfl rfl hl.1 rfl (lv_room (Nat.le_of_ble_eq_true rfl)) d_Me_of_129 ⟨(show 0 + 0 ≤ 0 by omega), (show 0 + 0 ≤ 0 by omega)⟩) hI hA hexc (show 0 + 0 ≤ 0 by omega) (show 0 + 0 ≤ 0 by omega) (fun v75 w H locs h hI => ?_)
            refine lv_goto (tgt := 143) hx hb d_Me_of_132 (by decide) ?_
            exact hK143 _ w H locs ls h hI (lv_sub hl [0] rfl)
      · have c44 := mt (lg_cmp_le _ _).mpr c44
        have h := gie c44 h
        exact hK112 w H locs ls h hI (lv_sub hl [] rfl)

abbrev b_La_reachesInto : ByteArray := prog_4_method_3_code
def y_La_reachesInto : MethodName := ⟨"BodySolids$Layout", "reachesInto", "(LBodySolids$Solid;)Z"⟩
theorem d_La_reachesInto_0 : decode b_La_reachesInto 0 = .ok (.iconst 0, 1) := by decide +kernel
theorem d_La_reachesInto_1 : decode b_La_reachesInto 1 = .ok (.istore_n 2, 1) := by decide +kernel
theorem d_La_reachesInto_2 : decode b_La_reachesInto 2 = .ok (.iload_n 2, 1) := by decide +kernel
theorem d_La_reachesInto_3 : decode b_La_reachesInto 3 = .ok (.aload_n 0, 1) := by decide +kernel
theorem d_La_reachesInto_4 : decode b_La_reachesInto 4 = .ok (.getfield 17, 3) := by decide +kernel
theorem d_La_reachesInto_7 : decode b_La_reachesInto 7 = .ok (.if_icmp .ge 25, 3) := by decide +kernel
theorem d_La_reachesInto_10 : decode b_La_reachesInto 10 = .ok (.aload_n 0, 1) := by decide +kernel
theorem d_La_reachesInto_11 : decode b_La_reachesInto 11 = .ok (.getfield 11, 3) := by decide +kernel
theorem d_La_reachesInto_14 : decode b_La_reachesInto 14 = .ok (.iload_n 2, 1) := by decide +kernel
theorem d_La_reachesInto_15 : decode b_La_reachesInto 15 = .ok (.aaload, 1) := by decide +kernel
theorem d_La_reachesInto_16 : decode b_La_reachesInto 16 = .ok (.aload_n 1, 1) := by decide +kernel
theorem d_La_reachesInto_17 : decode b_La_reachesInto 17 = .ok (.invokestatic 53, 3) := by decide +kernel
theorem d_La_reachesInto_20 : decode b_La_reachesInto 20 = .ok (.iconst (-1), 1) := by decide +kernel
theorem d_La_reachesInto_21 : decode b_La_reachesInto 21 = .ok (.if_icmp .ne 5, 3) := by decide +kernel
theorem d_La_reachesInto_24 : decode b_La_reachesInto 24 = .ok (.iconst 1, 1) := by decide +kernel
theorem d_La_reachesInto_25 : decode b_La_reachesInto 25 = .ok (.ireturn, 1) := by decide +kernel
theorem d_La_reachesInto_26 : decode b_La_reachesInto 26 = .ok (.iinc 2 1, 3) := by decide +kernel
theorem d_La_reachesInto_29 : decode b_La_reachesInto 29 = .ok (.goto (-27), 3) := by decide +kernel
theorem d_La_reachesInto_32 : decode b_La_reachesInto 32 = .ok (.iconst 0, 1) := by decide +kernel
theorem d_La_reachesInto_33 : decode b_La_reachesInto 33 = .ok (.ireturn, 1) := by decide +kernel
abbrev rm_La_reachesInto : Room := { frames := 5, cells := 0, slots := 0, locals := 147 }
theorem ce_La_reachesInto : gCe y_La_reachesInto (.code y_La_reachesInto b_La_reachesInto 3 (some .boolean)) 3 1 false := gCe.code wd_422 wd_55 wd_420 (by decide) (by decide +kernel)
def f_La_reachesInto_L2 (g0 : gG) (c0 : Nat) (c1 : Nat) (K32 : gW → gX Int32) (K24 : gW → gX Int32) : Nat → Int32 → gW → gX Int32
  | 0, _, _ => none
  | n + 1, z2, w => (gfI w c0 2 1).bind fun v3 => if v3 ≤ z2 then (K32 w) else ((gfA w c0 2 0).bind fun v6 => (gaA w v6 z2).bind fun v8 => gbind (f_Me_of g0 v8 c1 w) fun v12 w => if v12 = (-1) then (K24 w) else (f_La_reachesInto_L2 g0 c0 c1 K32 K24 n (z2 + 1) w))
def f_La_reachesInto (g0 : gG) (a0 : Nat) (a1 : Nat) (w : gW) : gX Int32 := gjoin (fun K32 => gjoin (fun K24 => f_La_reachesInto_L2 g0 a0 a1 K32 K24 64 0 w) (fun (w : gW) => gguard ((1 : Int32) = 0 ∨ (1 : Int32) = 1) (some (.inr 1, w)))) (fun (w : gW) => gguard ((0 : Int32) = 0 ∨ (0 : Int32) = 1) (some (.inr 0, w)))
set_option maxHeartbeats 4000000 in
set_option maxRecDepth 100000 in
theorem m_La_reachesInto (l : Launch) (hst : l.stackTraces = false) (D : gD) (g0 : gG) (a0 : Nat) (a1 : Nat) (w : gW) (r : (String ⊕ Int32) × gW) (h : f_La_reachesInto g0 a0 a1 w = some r) : gMet l y_La_reachesInto (.code y_La_reachesInto b_La_reachesInto 3 (some .boolean)) rm_La_reachesInto D g0 [.ref a0, .ref a1] w (goI r) := by
  refine gw_ofZ (by decide +kernel) (Nat.le_of_ble_eq_true rfl) ?_
  intro p e s m below meth c ls args A Q hx hb hml hown hlocks hin hnt hT hK hZ hA hret hexc hthr hI hl
  obtain ⟨H, hH⟩ : ∃ H, H = s.heap := ⟨_, rfl⟩
  rw [← hH] at hI ⊢
  obtain ⟨locs, hlocs⟩ : ∃ z : List Loc, z = [] := ⟨_, rfl⟩
  rw [← hlocs] at hI ⊢
  have hl : lv_has ls 3 [(0, .ref a0), (1, .ref a1)] := hl
  unfold f_La_reachesInto at h
  refine lv_iconst (v := 0) hx hb d_La_reachesInto_0 (by decide) ?_
  refine lv_istore_n (lv' := [(2, .int 0), (0, .ref a0), (1, .ref a1)]) hx hb d_La_reachesInto_1 rfl hl (by decide) rfl (fun ls hl => ?_)
  obtain ⟨K32, eK32, h⟩ := gj h
  have hK32 : ∀ (w : gW) (H : Heap) (locs : List Loc) (ls : Array Slot), K32 w = some r → gI D s A w H locs → lv_has ls 3 [] → W p l e rm_La_reachesInto s m args below meth c H locs 0 0 Q (F0 m 32 ls []) := by
    intro w H locs ls h hI hl
    have h := gk1 eK32 h
    refine lv_iconst (v := 0) hx hb d_La_reachesInto_32 (by decide) ?_
    obtain ⟨g1, h⟩ := gif h
    exact W.widen (show 0 ≤ 0 by omega) (show 0 ≤ 0 by omega) (hret g1 0 _ (Option.some.inj h).symm _ _ _ _ d_La_reachesInto_33 hI)
  obtain ⟨K24, eK24, h⟩ := gj h
  have hK24 : ∀ (w : gW) (H : Heap) (locs : List Loc) (ls : Array Slot), K24 w = some r → gI D s A w H locs → lv_has ls 3 [] → W p l e rm_La_reachesInto s m args below meth c H locs 0 0 Q (F0 m 24 ls []) := by
    intro w H locs ls h hI hl
    have h := gk1 eK24 h
    refine lv_iconst (v := 1) hx hb d_La_reachesInto_24 (by decide) ?_
    obtain ⟨g2, h⟩ := gif h
    exact W.widen (show 0 ≤ 0 by omega) (show 0 ≤ 0 by omega) (hret g2 0 _ (Option.some.inj h).symm _ _ _ _ d_La_reachesInto_25 hI)
  have hL2 : ∀ (n : Nat), ∀ (z3 : Int32) (w : gW) (H : Heap) (locs : List Loc) (ls : Array Slot), f_La_reachesInto_L2 g0 a0 a1 K32 K24 n z3 w = some r → gI D s A w H locs → lv_has ls 3 [(0, .ref a0), (1, .ref a1), (2, .int z3)] → W p l e rm_La_reachesInto s m args below meth c H locs 0 0 Q (F0 m 2 ls []) := by
    intro n
    induction n with
    | zero => intro z3 w H locs ls h hI hl; exact absurd h (by simp [f_La_reachesInto_L2])
    | succ n ih =>
      intro z3 w H locs ls h hI hl
      rw [f_La_reachesInto_L2] at h
      refine lv_iload_n hx hb d_La_reachesInto_2 rfl (lv_at hl 2 rfl) ?_
      refine lv_aload_n hx hb d_La_reachesInto_3 rfl (lv_at hl 0 rfl) ?_
      obtain ⟨v4, e5, h⟩ := gb h
      refine gw_getI hx hb hT hown hK hI (ci := 2) rfl i_2 1 (by decide) wd_182 (fun _ h9 => h9) e5 d_La_reachesInto_4 ?_
      refine lv_icmp_ge (tgt := 32) hx hb d_La_reachesInto_7 (by decide) (fun c6 => ?_) (fun c6 => ?_)
      · skip
        have h := git c6 h
        exact hK32 w H locs ls h hI (lv_sub hl [] rfl)
      · skip
        have h := gie c6 h
        refine lv_aload_n hx hb d_La_reachesInto_10 rfl (lv_at hl 0 rfl) ?_
        obtain ⟨v7, e8, h⟩ := gb h
        refine gw_getA hx hb hT hown hK hI (ci := 2) rfl i_2 0 (by decide) wd_180 (fun _ h9 => h9) e8 d_La_reachesInto_11 ?_
        refine lv_iload_n hx hb d_La_reachesInto_14 rfl (lv_at hl 2 rfl) ?_
        obtain ⟨v9, e10, h⟩ := gb h
        refine gw_aldA hx hb hK hI e10 d_La_reachesInto_15 ?_
        refine lv_aload_n hx hb d_La_reachesInto_16 rfl (lv_at hl 1 rfl) ?_
        obtain ⟨u11, e12⟩ := gsome h
        refine gw_callI e12 h (gw_runS (As := [.ref v9, .ref a1]) (rest := []) hx hb hml hown hT hK hZ hA hI (m_Me_of l hst D g0 v9 a1 w u11 e12) ce_Me_of wd_423 ⟨by decide, by decide⟩ rfl rfl hl.1 rfl (lv_room (Nat.le_of_ble_eq_true rfl)) d_La_reachesInto_17 ⟨(show 0 + 0 ≤ 0 by omega), (show 0 + 0 ≤ 0 by omega)⟩) hI hA hexc (show 0 + 0 ≤ 0 by omega) (show 0 + 0 ≤ 0 by omega) (fun v13 w H locs h hI => ?_)
        refine lv_iconst (v := -1) hx hb d_La_reachesInto_20 (by decide) ?_
        refine lv_icmp_ne (tgt := 26) hx hb d_La_reachesInto_21 (by decide) (fun c14 => ?_) (fun c14 => ?_)
        · skip
          have h := gie c14 h
          refine lv_iinc (v := z3 + 1) (lv' := [(2, .int (z3 + 1)), (0, .ref a0), (1, .ref a1)]) hx hb d_La_reachesInto_26 hl (k := 2) rfl rfl (by decide) rfl (fun ls hl => ?_)
          refine lv_goto (tgt := 2) hx hb d_La_reachesInto_29 (by decide) ?_
          exact ih _ w H locs ls h hI (lv_sub hl [1, 2, 0] rfl)
        · skip
          have h := git c14 h
          exact hK24 w H locs ls h hI (lv_sub hl [] rfl)
  exact hL2 64 _ w H locs ls h hI (lv_sub hl [1, 2, 0] rfl)

abbrev b_So_addRectangle : ByteArray := prog_7_method_4_code
def y_So_addRectangle : MethodName := ⟨"BodySolids$Solid", "addRectangle", "(JJJJ)V"⟩
theorem d_So_addRectangle_0 : decode b_So_addRectangle 0 = .ok (.aload_n 0, 1) := by decide +kernel
theorem d_So_addRectangle_1 : decode b_So_addRectangle 1 = .ok (.lload_n 1, 1) := by decide +kernel
theorem d_So_addRectangle_2 : decode b_So_addRectangle 2 = .ok (.lload_n 3, 1) := by decide +kernel
theorem d_So_addRectangle_3 : decode b_So_addRectangle 3 = .ok (.invokevirtual 53, 3) := by decide +kernel
theorem d_So_addRectangle_6 : decode b_So_addRectangle 6 = .ok (.aload_n 0, 1) := by decide +kernel
theorem d_So_addRectangle_7 : decode b_So_addRectangle 7 = .ok (.lload 5, 2) := by decide +kernel
theorem d_So_addRectangle_9 : decode b_So_addRectangle 9 = .ok (.lload_n 3, 1) := by decide +kernel
theorem d_So_addRectangle_10 : decode b_So_addRectangle 10 = .ok (.invokevirtual 53, 3) := by decide +kernel
theorem d_So_addRectangle_13 : decode b_So_addRectangle 13 = .ok (.aload_n 0, 1) := by decide +kernel
theorem d_So_addRectangle_14 : decode b_So_addRectangle 14 = .ok (.lload 5, 2) := by decide +kernel
theorem d_So_addRectangle_16 : decode b_So_addRectangle 16 = .ok (.lload 7, 2) := by decide +kernel
theorem d_So_addRectangle_18 : decode b_So_addRectangle 18 = .ok (.invokevirtual 53, 3) := by decide +kernel
theorem d_So_addRectangle_21 : decode b_So_addRectangle 21 = .ok (.aload_n 0, 1) := by decide +kernel
theorem d_So_addRectangle_22 : decode b_So_addRectangle 22 = .ok (.lload_n 1, 1) := by decide +kernel
theorem d_So_addRectangle_23 : decode b_So_addRectangle 23 = .ok (.lload 7, 2) := by decide +kernel
theorem d_So_addRectangle_25 : decode b_So_addRectangle 25 = .ok (.invokevirtual 53, 3) := by decide +kernel
theorem d_So_addRectangle_28 : decode b_So_addRectangle 28 = .ok (.return_, 1) := by decide +kernel
abbrev rm_So_addRectangle : Room := { frames := 2, cells := 0, slots := 0, locals := 47 }
theorem ce_So_addRectangle : gCe y_So_addRectangle (.code y_So_addRectangle b_So_addRectangle 9 none) 9 4 false := gCe.code wd_552 wd_56 wd_550 (by decide) (by decide +kernel)
def f_So_addRectangle (g0 : gG) (a0 : Nat) (p1 : Int64) (p2 : Int64) (p3 : Int64) (p4 : Int64) (w : gW) : gX Unit := (gck w a0 3).bind fun _ => gbind (f_So_addCorner g0 a0 p1 p2 w) fun v5 w => (gck w a0 3).bind fun _ => gbind (f_So_addCorner g0 a0 p3 p2 w) fun v10 w => (gck w a0 3).bind fun _ => gbind (f_So_addCorner g0 a0 p3 p4 w) fun v15 w => (gck w a0 3).bind fun _ => gbind (f_So_addCorner g0 a0 p1 p4 w) fun v20 w => some (.inr (), w)
set_option maxHeartbeats 4000000 in
set_option maxRecDepth 100000 in
theorem m_So_addRectangle (l : Launch) (hst : l.stackTraces = false) (D : gD) (g0 : gG) (a0 : Nat) (p1 : Int64) (p2 : Int64) (p3 : Int64) (p4 : Int64) (w : gW) (r : (String ⊕ Unit) × gW) (h : f_So_addRectangle g0 a0 p1 p2 p3 p4 w = some r) : gMet l y_So_addRectangle (.code y_So_addRectangle b_So_addRectangle 9 none) rm_So_addRectangle D g0 [.ref a0, .long p1, .long p2, .long p3, .long p4] w (goV r) := by
  refine gw_ofV (by decide +kernel) (Nat.le_of_ble_eq_true rfl) ?_
  intro p e s m below meth c ls args A Q hx hb hml hown hlocks hin hnt hT hK hZ hA hret hexc hthr hI hl
  obtain ⟨H, hH⟩ : ∃ H, H = s.heap := ⟨_, rfl⟩
  rw [← hH] at hI ⊢
  obtain ⟨locs, hlocs⟩ : ∃ z : List Loc, z = [] := ⟨_, rfl⟩
  rw [← hlocs] at hI ⊢
  have hl : lv_has ls 9 [(0, .ref a0), (1, .long p1), (3, .long p2), (5, .long p3), (7, .long p4)] := hl
  unfold f_So_addRectangle at h
  refine lv_aload_n hx hb d_So_addRectangle_0 rfl (lv_at hl 0 rfl) ?_
  refine lv_lload_n hx hb d_So_addRectangle_1 rfl (lv_at hl 1 rfl) ?_
  refine lv_lload_n hx hb d_So_addRectangle_2 rfl (lv_at hl 2 rfl) ?_
  obtain ⟨q3, e4, h⟩ := gb h
  obtain ⟨u1, e2⟩ := gsome h
  refine gw_callV e2 h (gw_runV (As := [.long p1, .long p2]) (rest := []) hx hb hml hown hT hK hZ hA hI (ci := 3) rfl e4 (m_So_addCorner l hst D g0 a0 p1 p2 w u1 e2) ce_So_addCorner wd_359 wd_361 ⟨by decide, by decide⟩ rfl rfl hl.1 rfl (lv_room (Nat.le_of_ble_eq_true rfl)) d_So_addRectangle_3 ⟨(show 0 + 0 ≤ 0 by omega), (show 0 + 0 ≤ 0 by omega)⟩) hI hA hexc (show 0 + 0 ≤ 0 by omega) (show 0 + 0 ≤ 0 by omega) (fun v5 w H locs h hI => ?_)
  refine lv_aload_n hx hb d_So_addRectangle_6 rfl (lv_at hl 0 rfl) ?_
  refine lv_lload hx hb d_So_addRectangle_7 (lv_at hl 3 rfl) ?_
  refine lv_lload_n hx hb d_So_addRectangle_9 rfl (lv_at hl 2 rfl) ?_
  obtain ⟨q8, e9, h⟩ := gb h
  obtain ⟨u6, e7⟩ := gsome h
  refine gw_callV e7 h (gw_runV (As := [.long p3, .long p2]) (rest := []) hx hb hml hown hT hK hZ hA hI (ci := 3) rfl e9 (m_So_addCorner l hst D g0 a0 p3 p2 w u6 e7) ce_So_addCorner wd_359 wd_361 ⟨by decide, by decide⟩ rfl rfl hl.1 rfl (lv_room (Nat.le_of_ble_eq_true rfl)) d_So_addRectangle_10 ⟨(show 0 + 0 ≤ 0 by omega), (show 0 + 0 ≤ 0 by omega)⟩) hI hA hexc (show 0 + 0 ≤ 0 by omega) (show 0 + 0 ≤ 0 by omega) (fun v10 w H locs h hI => ?_)
  refine lv_aload_n hx hb d_So_addRectangle_13 rfl (lv_at hl 0 rfl) ?_
  refine lv_lload hx hb d_So_addRectangle_14 (lv_at hl 3 rfl) ?_
  refine lv_lload hx hb d_So_addRectangle_16 (lv_at hl 4 rfl) ?_
  obtain ⟨q13, e14, h⟩ := gb h
  obtain ⟨u11, e12⟩ := gsome h
  refine gw_callV e12 h (gw_runV (As := [.long p3, .long p4]) (rest := []) hx hb hml hown hT hK hZ hA hI (ci := 3) rfl e14 (m_So_addCorner l hst D g0 a0 p3 p4 w u11 e12) ce_So_addCorner wd_359 wd_361 ⟨by decide, by decide⟩ rfl rfl hl.1 rfl (lv_room (Nat.le_of_ble_eq_true rfl)) d_So_addRectangle_18 ⟨(show 0 + 0 ≤ 0 by omega), (show 0 + 0 ≤ 0 by omega)⟩) hI hA hexc (show 0 + 0 ≤ 0 by omega) (show 0 + 0 ≤ 0 by omega) (fun v15 w H locs h hI => ?_)
  refine lv_aload_n hx hb d_So_addRectangle_21 rfl (lv_at hl 0 rfl) ?_
  refine lv_lload_n hx hb d_So_addRectangle_22 rfl (lv_at hl 1 rfl) ?_
  refine lv_lload hx hb d_So_addRectangle_23 (lv_at hl 4 rfl) ?_
  obtain ⟨q18, e19, h⟩ := gb h
  obtain ⟨u16, e17⟩ := gsome h
  refine gw_callV e17 h (gw_runV (As := [.long p1, .long p4]) (rest := []) hx hb hml hown hT hK hZ hA hI (ci := 3) rfl e19 (m_So_addCorner l hst D g0 a0 p1 p4 w u16 e17) ce_So_addCorner wd_359 wd_361 ⟨by decide, by decide⟩ rfl rfl hl.1 rfl (lv_room (Nat.le_of_ble_eq_true rfl)) d_So_addRectangle_25 ⟨(show 0 + 0 ≤ 0 by omega), (show 0 + 0 ≤ 0 by omega)⟩) hI hA hexc (show 0 + 0 ≤ 0 by omega) (show 0 + 0 ≤ 0 by omega) (fun v20 w H locs h hI => ?_)
  exact W.widen (show 0 ≤ 0 by omega) (show 0 ≤ 0 by omega) (hret _ _ (Option.some.inj h).symm _ _ _ _ d_So_addRectangle_28 hI)

abbrev b_So_isCutAt : ByteArray := prog_7_method_7_code
def y_So_isCutAt : MethodName := ⟨"BodySolids$Solid", "isCutAt", "(J)Z"⟩
theorem d_So_isCutAt_0 : decode b_So_isCutAt 0 = .ok (.aload_n 0, 1) := by decide +kernel
theorem d_So_isCutAt_1 : decode b_So_isCutAt 1 = .ok (.getfield 18, 3) := by decide +kernel
theorem d_So_isCutAt_4 : decode b_So_isCutAt 4 = .ok (.iconst 3, 1) := by decide +kernel
theorem d_So_isCutAt_5 : decode b_So_isCutAt 5 = .ok (.if_icmp .eq 25, 3) := by decide +kernel
theorem d_So_isCutAt_8 : decode b_So_isCutAt 8 = .ok (.aload_n 0, 1) := by decide +kernel
theorem d_So_isCutAt_9 : decode b_So_isCutAt 9 = .ok (.getfield 57, 3) := by decide +kernel
theorem d_So_isCutAt_12 : decode b_So_isCutAt 12 = .ok (.lload_n 1, 1) := by decide +kernel
theorem d_So_isCutAt_13 : decode b_So_isCutAt 13 = .ok (.lcmp, 1) := by decide +kernel
theorem d_So_isCutAt_14 : decode b_So_isCutAt 14 = .ok (.ifCond .ge 16, 3) := by decide +kernel
theorem d_So_isCutAt_17 : decode b_So_isCutAt 17 = .ok (.lload_n 1, 1) := by decide +kernel
theorem d_So_isCutAt_18 : decode b_So_isCutAt 18 = .ok (.aload_n 0, 1) := by decide +kernel
theorem d_So_isCutAt_19 : decode b_So_isCutAt 19 = .ok (.getfield 60, 3) := by decide +kernel
theorem d_So_isCutAt_22 : decode b_So_isCutAt 22 = .ok (.lcmp, 1) := by decide +kernel
theorem d_So_isCutAt_23 : decode b_So_isCutAt 23 = .ok (.ifCond .ge 7, 3) := by decide +kernel
theorem d_So_isCutAt_26 : decode b_So_isCutAt 26 = .ok (.iconst 1, 1) := by decide +kernel
theorem d_So_isCutAt_27 : decode b_So_isCutAt 27 = .ok (.goto 4, 3) := by decide +kernel
theorem d_So_isCutAt_30 : decode b_So_isCutAt 30 = .ok (.iconst 0, 1) := by decide +kernel
theorem d_So_isCutAt_31 : decode b_So_isCutAt 31 = .ok (.ireturn, 1) := by decide +kernel
abbrev rm_So_isCutAt : Room := { frames := 0, cells := 0, slots := 0, locals := 0 }
theorem ce_So_isCutAt : gCe y_So_isCutAt (.code y_So_isCutAt b_So_isCutAt 3 (some .boolean)) 3 1 false := gCe.code wd_766 wd_56 wd_764 (by decide) (by decide +kernel)
def f_So_isCutAt (g0 : gG) (a0 : Nat) (p1 : Int64) (w : gW) : gX Int32 := (gfI w a0 3 0).bind fun v1 => gjoin (fun K31 => gjoin (fun K30 => if v1 = 3 then (K30 w) else ((gfJ w a0 3 8).bind fun v6 => if p1 ≤ v6 then (K30 w) else ((gfJ w a0 3 11).bind fun v9 => if v9 ≤ p1 then (K30 w) else (K31 1 w)))) (fun (w : gW) => K31 0 w)) (fun (y3 : Int32) (w : gW) => gguard (y3 = 0 ∨ y3 = 1) (some (.inr y3, w)))
set_option maxHeartbeats 4000000 in
set_option maxRecDepth 100000 in
theorem m_So_isCutAt (l : Launch) (hst : l.stackTraces = false) (D : gD) (g0 : gG) (a0 : Nat) (p1 : Int64) (w : gW) (r : (String ⊕ Int32) × gW) (h : f_So_isCutAt g0 a0 p1 w = some r) : gMet l y_So_isCutAt (.code y_So_isCutAt b_So_isCutAt 3 (some .boolean)) rm_So_isCutAt D g0 [.ref a0, .long p1] w (goI r) := by
  refine gw_ofZ (by decide +kernel) (Nat.le_of_ble_eq_true rfl) ?_
  intro p e s m below meth c ls args A Q hx hb hml hown hlocks hin hnt hT hK hZ hA hret hexc hthr hI hl
  obtain ⟨H, hH⟩ : ∃ H, H = s.heap := ⟨_, rfl⟩
  rw [← hH] at hI ⊢
  obtain ⟨locs, hlocs⟩ : ∃ z : List Loc, z = [] := ⟨_, rfl⟩
  rw [← hlocs] at hI ⊢
  have hl : lv_has ls 3 [(0, .ref a0), (1, .long p1)] := hl
  unfold f_So_isCutAt at h
  refine lv_aload_n hx hb d_So_isCutAt_0 rfl (lv_at hl 0 rfl) ?_
  obtain ⟨v1, e2, h⟩ := gb h
  refine gw_getI hx hb hT hown hK hI (ci := 3) rfl i_3 0 (by decide) wd_129 (fun _ h9 => h9) e2 d_So_isCutAt_1 ?_
  refine lv_iconst (v := 3) hx hb d_So_isCutAt_4 (by decide) ?_
  obtain ⟨K31, eK31, h⟩ := gj h
  have hK31 : ∀ (y3 : Int32) (w : gW) (H : Heap) (locs : List Loc) (ls : Array Slot), K31 y3 w = some r → gI D s A w H locs → lv_has ls 3 [] → W p l e rm_So_isCutAt s m args below meth c H locs 0 0 Q (F0 m 31 ls [.int y3]) := by
    intro y3 w H locs ls h hI hl
    have h := gk2 eK31 h
    obtain ⟨g4, h⟩ := gif h
    exact W.widen (show 0 ≤ 0 by omega) (show 0 ≤ 0 by omega) (hret g4 0 _ (Option.some.inj h).symm _ _ _ _ d_So_isCutAt_31 hI)
  obtain ⟨K30, eK30, h⟩ := gj h
  have hK30 : ∀ (w : gW) (H : Heap) (locs : List Loc) (ls : Array Slot), K30 w = some r → gI D s A w H locs → lv_has ls 3 [] → W p l e rm_So_isCutAt s m args below meth c H locs 0 0 Q (F0 m 30 ls []) := by
    intro w H locs ls h hI hl
    have h := gk1 eK30 h
    refine lv_iconst (v := 0) hx hb d_So_isCutAt_30 (by decide) ?_
    exact hK31 _ w H locs ls h hI (lv_sub hl [] rfl)
  refine lv_icmp_eq (tgt := 30) hx hb d_So_isCutAt_5 (by decide) (fun c5 => ?_) (fun c5 => ?_)
  · skip
    have h := git c5 h
    exact hK30 w H locs ls h hI (lv_sub hl [] rfl)
  · skip
    have h := gie c5 h
    refine lv_aload_n hx hb d_So_isCutAt_8 rfl (lv_at hl 0 rfl) ?_
    obtain ⟨v6, e7, h⟩ := gb h
    refine gw_getJ hx hb hT hown hK hI (ci := 3) rfl i_3 8 (by decide) wd_146 (fun _ h9 => h9) e7 d_So_isCutAt_9 ?_
    refine lv_lload_n hx hb d_So_isCutAt_12 rfl (lv_at hl 1 rfl) ?_
    refine W.lcmp hx hb d_So_isCutAt_13 ?_
    refine lv_if_ge (tgt := 30) hx hb d_So_isCutAt_14 (by decide) (fun c8 => ?_) (fun c8 => ?_)
    · have c8 := (lg_cmp_ge _ _).mp c8
      have h := git c8 h
      exact hK30 w H locs ls h hI (lv_sub hl [] rfl)
    · have c8 := mt (lg_cmp_ge _ _).mpr c8
      have h := gie c8 h
      refine lv_lload_n hx hb d_So_isCutAt_17 rfl (lv_at hl 1 rfl) ?_
      refine lv_aload_n hx hb d_So_isCutAt_18 rfl (lv_at hl 0 rfl) ?_
      obtain ⟨v9, e10, h⟩ := gb h
      refine gw_getJ hx hb hT hown hK hI (ci := 3) rfl i_3 11 (by decide) wd_152 (fun _ h9 => h9) e10 d_So_isCutAt_19 ?_
      refine W.lcmp hx hb d_So_isCutAt_22 ?_
      refine lv_if_ge (tgt := 30) hx hb d_So_isCutAt_23 (by decide) (fun c11 => ?_) (fun c11 => ?_)
      · have c11 := (lg_cmp_ge _ _).mp c11
        have h := git c11 h
        exact hK30 w H locs ls h hI (lv_sub hl [] rfl)
      · have c11 := mt (lg_cmp_ge _ _).mpr c11
        have h := gie c11 h
        refine lv_iconst (v := 1) hx hb d_So_isCutAt_26 (by decide) ?_
        refine lv_goto (tgt := 31) hx hb d_So_isCutAt_27 (by decide) ?_
        exact hK31 _ w H locs ls h hI (lv_sub hl [] rfl)
