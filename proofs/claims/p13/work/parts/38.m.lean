abbrev b_M_along : ByteArray := prog_9_method_36_code
def y_M_along : MethodName := ⟨"BodySolidsModel", "along", "(JJ)I"⟩
theorem d_M_along_0 : decode b_M_along 0 = .ok (.lload_n 1, 1) := by decide +kernel
theorem d_M_along_1 : decode b_M_along 1 = .ok (.aload_n 0, 1) := by decide +kernel
theorem d_M_along_2 : decode b_M_along 2 = .ok (.getfield 59, 3) := by decide +kernel
theorem d_M_along_5 : decode b_M_along 5 = .ok (.iconst 0, 1) := by decide +kernel
theorem d_M_along_6 : decode b_M_along 6 = .ok (.laload, 1) := by decide +kernel
theorem d_M_along_7 : decode b_M_along 7 = .ok (.lmul, 1) := by decide +kernel
theorem d_M_along_8 : decode b_M_along 8 = .ok (.lload_n 3, 1) := by decide +kernel
theorem d_M_along_9 : decode b_M_along 9 = .ok (.aload_n 0, 1) := by decide +kernel
theorem d_M_along_10 : decode b_M_along 10 = .ok (.getfield 62, 3) := by decide +kernel
theorem d_M_along_13 : decode b_M_along 13 = .ok (.iconst 0, 1) := by decide +kernel
theorem d_M_along_14 : decode b_M_along 14 = .ok (.laload, 1) := by decide +kernel
theorem d_M_along_15 : decode b_M_along 15 = .ok (.lmul, 1) := by decide +kernel
theorem d_M_along_16 : decode b_M_along 16 = .ok (.ladd, 1) := by decide +kernel
theorem d_M_along_17 : decode b_M_along 17 = .ok (.lstore 5, 2) := by decide +kernel
theorem d_M_along_19 : decode b_M_along 19 = .ok (.lload 5, 2) := by decide +kernel
theorem d_M_along_21 : decode b_M_along 21 = .ok (.lstore 7, 2) := by decide +kernel
theorem d_M_along_23 : decode b_M_along 23 = .ok (.iconst 1, 1) := by decide +kernel
theorem d_M_along_24 : decode b_M_along 24 = .ok (.istore 9, 2) := by decide +kernel
theorem d_M_along_26 : decode b_M_along 26 = .ok (.iload 9, 2) := by decide +kernel
theorem d_M_along_28 : decode b_M_along 28 = .ok (.aload_n 0, 1) := by decide +kernel
theorem d_M_along_29 : decode b_M_along 29 = .ok (.getfield 56, 3) := by decide +kernel
theorem d_M_along_32 : decode b_M_along 32 = .ok (.iconst 0, 1) := by decide +kernel
theorem d_M_along_33 : decode b_M_along 33 = .ok (.iaload, 1) := by decide +kernel
theorem d_M_along_34 : decode b_M_along 34 = .ok (.if_icmp .ge 64, 3) := by decide +kernel
theorem d_M_along_37 : decode b_M_along 37 = .ok (.lload_n 1, 1) := by decide +kernel
theorem d_M_along_38 : decode b_M_along 38 = .ok (.aload_n 0, 1) := by decide +kernel
theorem d_M_along_39 : decode b_M_along 39 = .ok (.getfield 59, 3) := by decide +kernel
theorem d_M_along_42 : decode b_M_along 42 = .ok (.iload 9, 2) := by decide +kernel
theorem d_M_along_44 : decode b_M_along 44 = .ok (.laload, 1) := by decide +kernel
theorem d_M_along_45 : decode b_M_along 45 = .ok (.lmul, 1) := by decide +kernel
theorem d_M_along_46 : decode b_M_along 46 = .ok (.lload_n 3, 1) := by decide +kernel
theorem d_M_along_47 : decode b_M_along 47 = .ok (.aload_n 0, 1) := by decide +kernel
theorem d_M_along_48 : decode b_M_along 48 = .ok (.getfield 62, 3) := by decide +kernel
theorem d_M_along_51 : decode b_M_along 51 = .ok (.iload 9, 2) := by decide +kernel
theorem d_M_along_53 : decode b_M_along 53 = .ok (.laload, 1) := by decide +kernel
theorem d_M_along_54 : decode b_M_along 54 = .ok (.lmul, 1) := by decide +kernel
theorem d_M_along_55 : decode b_M_along 55 = .ok (.ladd, 1) := by decide +kernel
theorem d_M_along_56 : decode b_M_along 56 = .ok (.lstore 10, 2) := by decide +kernel
theorem d_M_along_58 : decode b_M_along 58 = .ok (.lload 10, 2) := by decide +kernel
theorem d_M_along_60 : decode b_M_along 60 = .ok (.lload 5, 2) := by decide +kernel
theorem d_M_along_62 : decode b_M_along 62 = .ok (.lcmp, 1) := by decide +kernel
theorem d_M_along_63 : decode b_M_along 63 = .ok (.ifCond .ge 8, 3) := by decide +kernel
theorem d_M_along_66 : decode b_M_along 66 = .ok (.lload 10, 2) := by decide +kernel
theorem d_M_along_68 : decode b_M_along 68 = .ok (.goto 5, 3) := by decide +kernel
theorem d_M_along_71 : decode b_M_along 71 = .ok (.lload 5, 2) := by decide +kernel
theorem d_M_along_73 : decode b_M_along 73 = .ok (.lstore 5, 2) := by decide +kernel
theorem d_M_along_75 : decode b_M_along 75 = .ok (.lload 10, 2) := by decide +kernel
theorem d_M_along_77 : decode b_M_along 77 = .ok (.lload 7, 2) := by decide +kernel
theorem d_M_along_79 : decode b_M_along 79 = .ok (.lcmp, 1) := by decide +kernel
theorem d_M_along_80 : decode b_M_along 80 = .ok (.ifCond .le 8, 3) := by decide +kernel
theorem d_M_along_83 : decode b_M_along 83 = .ok (.lload 10, 2) := by decide +kernel
theorem d_M_along_85 : decode b_M_along 85 = .ok (.goto 5, 3) := by decide +kernel
theorem d_M_along_88 : decode b_M_along 88 = .ok (.lload 7, 2) := by decide +kernel
theorem d_M_along_90 : decode b_M_along 90 = .ok (.lstore 7, 2) := by decide +kernel
theorem d_M_along_92 : decode b_M_along 92 = .ok (.iinc 9 1, 3) := by decide +kernel
theorem d_M_along_95 : decode b_M_along 95 = .ok (.goto (-69), 3) := by decide +kernel
theorem d_M_along_98 : decode b_M_along 98 = .ok (.lload_n 1, 1) := by decide +kernel
theorem d_M_along_99 : decode b_M_along 99 = .ok (.aload_n 0, 1) := by decide +kernel
theorem d_M_along_100 : decode b_M_along 100 = .ok (.getfield 59, 3) := by decide +kernel
theorem d_M_along_103 : decode b_M_along 103 = .ok (.bipush 8, 2) := by decide +kernel
theorem d_M_along_105 : decode b_M_along 105 = .ok (.laload, 1) := by decide +kernel
theorem d_M_along_106 : decode b_M_along 106 = .ok (.lmul, 1) := by decide +kernel
theorem d_M_along_107 : decode b_M_along 107 = .ok (.lload_n 3, 1) := by decide +kernel
theorem d_M_along_108 : decode b_M_along 108 = .ok (.aload_n 0, 1) := by decide +kernel
theorem d_M_along_109 : decode b_M_along 109 = .ok (.getfield 62, 3) := by decide +kernel
theorem d_M_along_112 : decode b_M_along 112 = .ok (.bipush 8, 2) := by decide +kernel
theorem d_M_along_114 : decode b_M_along 114 = .ok (.laload, 1) := by decide +kernel
theorem d_M_along_115 : decode b_M_along 115 = .ok (.lmul, 1) := by decide +kernel
theorem d_M_along_116 : decode b_M_along 116 = .ok (.ladd, 1) := by decide +kernel
theorem d_M_along_117 : decode b_M_along 117 = .ok (.lstore 9, 2) := by decide +kernel
theorem d_M_along_119 : decode b_M_along 119 = .ok (.lload 9, 2) := by decide +kernel
theorem d_M_along_121 : decode b_M_along 121 = .ok (.lstore 11, 2) := by decide +kernel
theorem d_M_along_123 : decode b_M_along 123 = .ok (.bipush 9, 2) := by decide +kernel
theorem d_M_along_125 : decode b_M_along 125 = .ok (.istore 13, 2) := by decide +kernel
theorem d_M_along_127 : decode b_M_along 127 = .ok (.iload 13, 2) := by decide +kernel
theorem d_M_along_129 : decode b_M_along 129 = .ok (.bipush 8, 2) := by decide +kernel
theorem d_M_along_131 : decode b_M_along 131 = .ok (.aload_n 0, 1) := by decide +kernel
theorem d_M_along_132 : decode b_M_along 132 = .ok (.getfield 56, 3) := by decide +kernel
theorem d_M_along_135 : decode b_M_along 135 = .ok (.iconst 1, 1) := by decide +kernel
theorem d_M_along_136 : decode b_M_along 136 = .ok (.iaload, 1) := by decide +kernel
theorem d_M_along_137 : decode b_M_along 137 = .ok (.iadd, 1) := by decide +kernel
theorem d_M_along_138 : decode b_M_along 138 = .ok (.if_icmp .ge 64, 3) := by decide +kernel
theorem d_M_along_141 : decode b_M_along 141 = .ok (.lload_n 1, 1) := by decide +kernel
theorem d_M_along_142 : decode b_M_along 142 = .ok (.aload_n 0, 1) := by decide +kernel
theorem d_M_along_143 : decode b_M_along 143 = .ok (.getfield 59, 3) := by decide +kernel
theorem d_M_along_146 : decode b_M_along 146 = .ok (.iload 13, 2) := by decide +kernel
theorem d_M_along_148 : decode b_M_along 148 = .ok (.laload, 1) := by decide +kernel
theorem d_M_along_149 : decode b_M_along 149 = .ok (.lmul, 1) := by decide +kernel
theorem d_M_along_150 : decode b_M_along 150 = .ok (.lload_n 3, 1) := by decide +kernel
theorem d_M_along_151 : decode b_M_along 151 = .ok (.aload_n 0, 1) := by decide +kernel
theorem d_M_along_152 : decode b_M_along 152 = .ok (.getfield 62, 3) := by decide +kernel
theorem d_M_along_155 : decode b_M_along 155 = .ok (.iload 13, 2) := by decide +kernel
theorem d_M_along_157 : decode b_M_along 157 = .ok (.laload, 1) := by decide +kernel
theorem d_M_along_158 : decode b_M_along 158 = .ok (.lmul, 1) := by decide +kernel
theorem d_M_along_159 : decode b_M_along 159 = .ok (.ladd, 1) := by decide +kernel
theorem d_M_along_160 : decode b_M_along 160 = .ok (.lstore 14, 2) := by decide +kernel
theorem d_M_along_162 : decode b_M_along 162 = .ok (.lload 14, 2) := by decide +kernel
theorem d_M_along_164 : decode b_M_along 164 = .ok (.lload 9, 2) := by decide +kernel
theorem d_M_along_166 : decode b_M_along 166 = .ok (.lcmp, 1) := by decide +kernel
theorem d_M_along_167 : decode b_M_along 167 = .ok (.ifCond .ge 8, 3) := by decide +kernel
theorem d_M_along_170 : decode b_M_along 170 = .ok (.lload 14, 2) := by decide +kernel
theorem d_M_along_172 : decode b_M_along 172 = .ok (.goto 5, 3) := by decide +kernel
theorem d_M_along_175 : decode b_M_along 175 = .ok (.lload 9, 2) := by decide +kernel
theorem d_M_along_177 : decode b_M_along 177 = .ok (.lstore 9, 2) := by decide +kernel
theorem d_M_along_179 : decode b_M_along 179 = .ok (.lload 14, 2) := by decide +kernel
theorem d_M_along_181 : decode b_M_along 181 = .ok (.lload 11, 2) := by decide +kernel
theorem d_M_along_183 : decode b_M_along 183 = .ok (.lcmp, 1) := by decide +kernel
theorem d_M_along_184 : decode b_M_along 184 = .ok (.ifCond .le 8, 3) := by decide +kernel
theorem d_M_along_187 : decode b_M_along 187 = .ok (.lload 14, 2) := by decide +kernel
theorem d_M_along_189 : decode b_M_along 189 = .ok (.goto 5, 3) := by decide +kernel
theorem d_M_along_192 : decode b_M_along 192 = .ok (.lload 11, 2) := by decide +kernel
theorem d_M_along_194 : decode b_M_along 194 = .ok (.lstore 11, 2) := by decide +kernel
theorem d_M_along_196 : decode b_M_along 196 = .ok (.iinc 13 1, 3) := by decide +kernel
theorem d_M_along_199 : decode b_M_along 199 = .ok (.goto (-72), 3) := by decide +kernel
theorem d_M_along_202 : decode b_M_along 202 = .ok (.lload 5, 2) := by decide +kernel
theorem d_M_along_204 : decode b_M_along 204 = .ok (.lload 11, 2) := by decide +kernel
theorem d_M_along_206 : decode b_M_along 206 = .ok (.lsub, 1) := by decide +kernel
theorem d_M_along_207 : decode b_M_along 207 = .ok (.invokestatic 186, 3) := by decide +kernel
theorem d_M_along_210 : decode b_M_along 210 = .ok (.istore 13, 2) := by decide +kernel
theorem d_M_along_212 : decode b_M_along 212 = .ok (.lload 9, 2) := by decide +kernel
theorem d_M_along_214 : decode b_M_along 214 = .ok (.lload 7, 2) := by decide +kernel
theorem d_M_along_216 : decode b_M_along 216 = .ok (.lsub, 1) := by decide +kernel
theorem d_M_along_217 : decode b_M_along 217 = .ok (.invokestatic 186, 3) := by decide +kernel
theorem d_M_along_220 : decode b_M_along 220 = .ok (.istore 14, 2) := by decide +kernel
theorem d_M_along_222 : decode b_M_along 222 = .ok (.iload 13, 2) := by decide +kernel
theorem d_M_along_224 : decode b_M_along 224 = .ok (.iload 14, 2) := by decide +kernel
theorem d_M_along_226 : decode b_M_along 226 = .ok (.if_icmp .ge 8, 3) := by decide +kernel
theorem d_M_along_229 : decode b_M_along 229 = .ok (.iload 13, 2) := by decide +kernel
theorem d_M_along_231 : decode b_M_along 231 = .ok (.goto 5, 3) := by decide +kernel
theorem d_M_along_234 : decode b_M_along 234 = .ok (.iload 14, 2) := by decide +kernel
theorem d_M_along_236 : decode b_M_along 236 = .ok (.ireturn, 1) := by decide +kernel
abbrev rm_M_along : Room := { frames := 1, cells := 0, slots := 0, locals := 21 }
theorem ce_M_along : gCe y_M_along (.code y_M_along b_M_along 16 (some .int)) 16 2 false := gCe.code wd_1066 wd_57 wd_1065 (by decide) (by decide +kernel)
def f_M_along_L127 (g0 : gG) (c0 : Nat) (c1 : Int64) (c3 : Int64) (c5 : Int64) (c7 : Int64) (K202 : Int64 → Int64 → gW → gX Int32) : Nat → Int64 → Int64 → Int32 → gW → gX Int32
  | 0, _, _, _, _ => none
  | n + 1, z9, z11, z13, w => (gfA w c0 7 21).bind fun v29 => (gaI w v29 1).bind fun v31 => if (8 + v31) ≤ z13 then (K202 z9 z11 w) else ((gfA w c0 7 22).bind fun v34 => (gaJ w v34 z13).bind fun v36 => (gfA w c0 7 23).bind fun v38 => (gaJ w v38 z13).bind fun v40 => gjoin (fun K177 => if z9 ≤ ((c1 * v36) + (c3 * v40)) then (K177 z9 w) else (K177 ((c1 * v36) + (c3 * v40)) w)) (fun (y42 : Int64) (w : gW) => gjoin (fun K194 => if ((c1 * v36) + (c3 * v40)) ≤ z11 then (K194 z11 w) else (K194 ((c1 * v36) + (c3 * v40)) w)) (fun (y43 : Int64) (w : gW) => f_M_along_L127 g0 c0 c1 c3 c5 c7 K202 n y42 y43 (z13 + 1) w)))
def f_M_along_L26 (g0 : gG) (c0 : Nat) (c1 : Int64) (c3 : Int64) (K98 : Int64 → Int64 → gW → gX Int32) : Nat → Int64 → Int64 → Int32 → gW → gX Int32
  | 0, _, _, _, _ => none
  | n + 1, z5, z7, z9, w => (gfA w c0 7 21).bind fun v49 => (gaI w v49 0).bind fun v51 => if v51 ≤ z9 then (K98 z5 z7 w) else ((gfA w c0 7 22).bind fun v54 => (gaJ w v54 z9).bind fun v56 => (gfA w c0 7 23).bind fun v58 => (gaJ w v58 z9).bind fun v60 => gjoin (fun K73 => if z5 ≤ ((c1 * v56) + (c3 * v60)) then (K73 z5 w) else (K73 ((c1 * v56) + (c3 * v60)) w)) (fun (y62 : Int64) (w : gW) => gjoin (fun K90 => if ((c1 * v56) + (c3 * v60)) ≤ z7 then (K90 z7 w) else (K90 ((c1 * v56) + (c3 * v60)) w)) (fun (y63 : Int64) (w : gW) => f_M_along_L26 g0 c0 c1 c3 K98 n y62 y63 (z9 + 1) w)))
def f_M_along (g0 : gG) (a0 : Nat) (p1 : Int64) (p2 : Int64) (w : gW) : gX Int32 := (gfA w a0 7 22).bind fun v1 => (gaJ w v1 0).bind fun v3 => (gfA w a0 7 23).bind fun v5 => (gaJ w v5 0).bind fun v7 => gjoin (fun K98 => f_M_along_L26 g0 a0 p1 p2 K98 64 ((p1 * v3) + (p2 * v7)) ((p1 * v3) + (p2 * v7)) 1 w) (fun (x9 : Int64) (x10 : Int64) (w : gW) => (gfA w a0 7 22).bind fun v11 => (gaJ w v11 8).bind fun v13 => (gfA w a0 7 23).bind fun v15 => (gaJ w v15 8).bind fun v17 => gjoin (fun K202 => f_M_along_L127 g0 a0 p1 p2 x9 x10 K202 64 ((p1 * v13) + (p2 * v17)) ((p1 * v13) + (p2 * v17)) 9 w) (fun (x19 : Int64) (x20 : Int64) (w : gW) => gbind (f_M_common g0 (x9 - x20) w) fun v23 w => gbind (f_M_common g0 (x19 - x10) w) fun v26 w => gjoin (fun K236 => if v26 ≤ v23 then (K236 v26 w) else (K236 v23 w)) (fun (y27 : Int32) (w : gW) => some (.inr y27, w))))
set_option maxHeartbeats 4000000 in
set_option maxRecDepth 100000 in
theorem m_M_along (l : Launch) (hst : l.stackTraces = false) (D : gD) (g0 : gG) (a0 : Nat) (p1 : Int64) (p2 : Int64) (w : gW) (r : (String ⊕ Int32) × gW) (h : f_M_along g0 a0 p1 p2 w = some r) : gMet l y_M_along (.code y_M_along b_M_along 16 (some .int)) rm_M_along D g0 [.ref a0, .long p1, .long p2] w (goI r) := by
  refine gw_ofI (by decide +kernel) (Nat.le_of_ble_eq_true rfl) ?_
  intro p e s m below meth c ls args A Q hx hb hml hown hlocks hin hnt hT hK hZ hA hret hexc hthr hI hl
  obtain ⟨H, hH⟩ : ∃ H, H = s.heap := ⟨_, rfl⟩
  rw [← hH] at hI ⊢
  obtain ⟨locs, hlocs⟩ : ∃ z : List Loc, z = [] := ⟨_, rfl⟩
  rw [← hlocs] at hI ⊢
  have hl : lv_has ls 16 [(0, .ref a0), (1, .long p1), (3, .long p2)] := hl
  unfold f_M_along at h
  refine lv_lload_n hx hb d_M_along_0 rfl (lv_at hl 1 rfl) ?_
  refine lv_aload_n hx hb d_M_along_1 rfl (lv_at hl 0 rfl) ?_
  obtain ⟨v1, e2, h⟩ := gb h
  refine gw_getA hx hb hT hown hK hI (ci := 7) rfl i_7 22 (by decide) wd_808 (fun _ h9 => h9) e2 d_M_along_2 ?_
  refine lv_iconst (v := 0) hx hb d_M_along_5 (by decide) ?_
  obtain ⟨v3, e4, h⟩ := gb h
  refine gw_aldJ hx hb hK hI e4 d_M_along_6 ?_
  refine lv_lmul hx hb d_M_along_7 ?_
  refine lv_lload_n hx hb d_M_along_8 rfl (lv_at hl 2 rfl) ?_
  refine lv_aload_n hx hb d_M_along_9 rfl (lv_at hl 0 rfl) ?_
  obtain ⟨v5, e6, h⟩ := gb h
  refine gw_getA hx hb hT hown hK hI (ci := 7) rfl i_7 23 (by decide) wd_809 (fun _ h9 => h9) e6 d_M_along_10 ?_
  refine lv_iconst (v := 0) hx hb d_M_along_13 (by decide) ?_
  obtain ⟨v7, e8, h⟩ := gb h
  refine gw_aldJ hx hb hK hI e8 d_M_along_14 ?_
  refine lv_lmul hx hb d_M_along_15 ?_
  refine lv_ladd hx hb d_M_along_16 ?_
  refine lv_lstore (lv' := [(5, .long ((p1 * v3) + (p2 * v7))), (0, .ref a0), (1, .long p1), (3, .long p2)]) hx hb d_M_along_17 hl (by decide) rfl (fun ls hl => ?_)
  refine lv_lload hx hb d_M_along_19 (lv_at hl 0 rfl) ?_
  refine lv_lstore (lv' := [(7, .long ((p1 * v3) + (p2 * v7))), (5, .long ((p1 * v3) + (p2 * v7))), (0, .ref a0), (1, .long p1), (3, .long p2)]) hx hb d_M_along_21 hl (by decide) rfl (fun ls hl => ?_)
  refine lv_iconst (v := 1) hx hb d_M_along_23 (by decide) ?_
  refine lv_istore (lv' := [(9, .int 1), (7, .long ((p1 * v3) + (p2 * v7))), (5, .long ((p1 * v3) + (p2 * v7))), (0, .ref a0), (1, .long p1), (3, .long p2)]) hx hb d_M_along_24 hl (by decide) rfl (fun ls hl => ?_)
  obtain ⟨K98, eK98, h⟩ := gj h
  have hK98 : ∀ (x9 : Int64) (x10 : Int64) (w : gW) (H : Heap) (locs : List Loc) (ls : Array Slot), K98 x9 x10 w = some r → gI D s A w H locs → lv_has ls 16 [(0, .ref a0), (1, .long p1), (3, .long p2), (5, .long x9), (7, .long x10)] → W p l e rm_M_along s m args below meth c H locs 0 0 Q (F0 m 98 ls []) := by
    intro x9 x10 w H locs ls h hI hl
    have h := gk3 eK98 h
    refine lv_lload_n hx hb d_M_along_98 rfl (lv_at hl 1 rfl) ?_
    refine lv_aload_n hx hb d_M_along_99 rfl (lv_at hl 0 rfl) ?_
    obtain ⟨v11, e12, h⟩ := gb h
    refine gw_getA hx hb hT hown hK hI (ci := 7) rfl i_7 22 (by decide) wd_808 (fun _ h9 => h9) e12 d_M_along_100 ?_
    refine lv_bipush (v := 8) hx hb d_M_along_103 (by decide) ?_
    obtain ⟨v13, e14, h⟩ := gb h
    refine gw_aldJ hx hb hK hI e14 d_M_along_105 ?_
    refine lv_lmul hx hb d_M_along_106 ?_
    refine lv_lload_n hx hb d_M_along_107 rfl (lv_at hl 2 rfl) ?_
    refine lv_aload_n hx hb d_M_along_108 rfl (lv_at hl 0 rfl) ?_
    obtain ⟨v15, e16, h⟩ := gb h
    refine gw_getA hx hb hT hown hK hI (ci := 7) rfl i_7 23 (by decide) wd_809 (fun _ h9 => h9) e16 d_M_along_109 ?_
    refine lv_bipush (v := 8) hx hb d_M_along_112 (by decide) ?_
    obtain ⟨v17, e18, h⟩ := gb h
    refine gw_aldJ hx hb hK hI e18 d_M_along_114 ?_
    refine lv_lmul hx hb d_M_along_115 ?_
    refine lv_ladd hx hb d_M_along_116 ?_
    refine lv_lstore (lv' := [(9, .long ((p1 * v13) + (p2 * v17))), (0, .ref a0), (1, .long p1), (3, .long p2), (5, .long x9), (7, .long x10)]) hx hb d_M_along_117 hl (by decide) rfl (fun ls hl => ?_)
    refine lv_lload hx hb d_M_along_119 (lv_at hl 0 rfl) ?_
    refine lv_lstore (lv' := [(11, .long ((p1 * v13) + (p2 * v17))), (9, .long ((p1 * v13) + (p2 * v17))), (0, .ref a0), (1, .long p1), (3, .long p2), (5, .long x9), (7, .long x10)]) hx hb d_M_along_121 hl (by decide) rfl (fun ls hl => ?_)
    refine lv_bipush (v := 9) hx hb d_M_along_123 (by decide) ?_
    refine lv_istore (lv' := [(13, .int 9), (11, .long ((p1 * v13) + (p2 * v17))), (9, .long ((p1 * v13) + (p2 * v17))), (0, .ref a0), (1, .long p1), (3, .long p2), (5, .long x9), (7, .long x10)]) hx hb d_M_along_125 hl (by decide) rfl (fun ls hl => ?_)
    obtain ⟨K202, eK202, h⟩ := gj h
    have hK202 : ∀ (x19 : Int64) (x20 : Int64) (w : gW) (H : Heap) (locs : List Loc) (ls : Array Slot), K202 x19 x20 w = some r → gI D s A w H locs → lv_has ls 16 [(5, .long x9), (7, .long x10), (9, .long x19), (11, .long x20)] → W p l e rm_M_along s m args below meth c H locs 0 0 Q (F0 m 202 ls []) := by
      intro x19 x20 w H locs ls h hI hl
      have h := gk3 eK202 h
      refine lv_lload hx hb d_M_along_202 (lv_at hl 0 rfl) ?_
      refine lv_lload hx hb d_M_along_204 (lv_at hl 3 rfl) ?_
      refine lv_lsub hx hb d_M_along_206 ?_
      obtain ⟨u21, e22⟩ := gsome h
      refine gw_callI e22 h (gw_runS (As := [.long (x9 - x20)]) (rest := []) hx hb hml hown hT hK hZ hA hI (m_M_common l hst D g0 (x9 - x20) w u21 e22) ce_M_common wd_1028 ⟨by decide, by decide⟩ rfl rfl hl.1 rfl (lv_room (Nat.le_of_ble_eq_true rfl)) d_M_along_207 ⟨(show 0 + 0 ≤ 0 by omega), (show 0 + 0 ≤ 0 by omega)⟩) hI hA hexc (show 0 + 0 ≤ 0 by omega) (show 0 + 0 ≤ 0 by omega) (fun v23 w H locs h hI => ?_)
      refine lv_istore (lv' := [(13, .int v23), (5, .long x9), (7, .long x10), (9, .long x19), (11, .long x20)]) hx hb d_M_along_210 hl (by decide) rfl (fun ls hl => ?_)
      refine lv_lload hx hb d_M_along_212 (lv_at hl 3 rfl) ?_
      refine lv_lload hx hb d_M_along_214 (lv_at hl 2 rfl) ?_
      refine lv_lsub hx hb d_M_along_216 ?_
      obtain ⟨u24, e25⟩ := gsome h
      refine gw_callI e25 h (gw_runS (As := [.long (x19 - x10)]) (rest := []) hx hb hml hown hT hK hZ hA hI (m_M_common l hst D g0 (x19 - x10) w u24 e25) ce_M_common wd_1028 ⟨by decide, by decide⟩ rfl rfl hl.1 rfl (lv_room (Nat.le_of_ble_eq_true rfl)) d_M_along_217 ⟨(show 0 + 0 ≤ 0 by omega), (show 0 + 0 ≤ 0 by omega)⟩) hI hA hexc (show 0 + 0 ≤ 0 by omega) (show 0 + 0 ≤ 0 by omega) (fun v26 w H locs h hI => ?_)
      refine lv_istore (lv' := [(14, .int v26), (13, .int v23), (5, .long x9), (7, .long x10), (9, .long x19), (11, .long x20)]) hx hb d_M_along_220 hl (by decide) rfl (fun ls hl => ?_)
      refine lv_iload hx hb d_M_along_222 (lv_at hl 1 rfl) ?_
      refine lv_iload hx hb d_M_along_224 (lv_at hl 0 rfl) ?_
      obtain ⟨K236, eK236, h⟩ := gj h
      have hK236 : ∀ (y27 : Int32) (w : gW) (H : Heap) (locs : List Loc) (ls : Array Slot), K236 y27 w = some r → gI D s A w H locs → lv_has ls 16 [] → W p l e rm_M_along s m args below meth c H locs 0 0 Q (F0 m 236 ls [.int y27]) := by
        intro y27 w H locs ls h hI hl
        have h := gk2 eK236 h
        exact W.widen (show 0 ≤ 0 by omega) (show 0 ≤ 0 by omega) (hret _ _ (Option.some.inj h).symm _ _ _ _ d_M_along_236 hI)
      refine lv_icmp_ge (tgt := 234) hx hb d_M_along_226 (by decide) (fun c28 => ?_) (fun c28 => ?_)
      · skip
        have h := git c28 h
        refine lv_iload hx hb d_M_along_234 (lv_at hl 0 rfl) ?_
        exact hK236 _ w H locs ls h hI (lv_sub hl [] rfl)
      · skip
        have h := gie c28 h
        refine lv_iload hx hb d_M_along_229 (lv_at hl 1 rfl) ?_
        refine lv_goto (tgt := 236) hx hb d_M_along_231 (by decide) ?_
        exact hK236 _ w H locs ls h hI (lv_sub hl [] rfl)
    have hL127 : ∀ (n : Nat), ∀ (z29 : Int64) (z30 : Int64) (z31 : Int32) (w : gW) (H : Heap) (locs : List Loc) (ls : Array Slot), f_M_along_L127 g0 a0 p1 p2 x9 x10 K202 n z29 z30 z31 w = some r → gI D s A w H locs → lv_has ls 16 [(0, .ref a0), (1, .long p1), (3, .long p2), (5, .long x9), (7, .long x10), (9, .long z29), (11, .long z30), (13, .int z31)] → W p l e rm_M_along s m args below meth c H locs 0 0 Q (F0 m 127 ls []) := by
      intro n
      induction n with
      | zero => intro z29 z30 z31 w H locs ls h hI hl; exact absurd h (by simp [f_M_along_L127])
      | succ n ih =>
        intro z29 z30 z31 w H locs ls h hI hl
        rw [f_M_along_L127] at h
        refine lv_iload hx hb d_M_along_127 (lv_at hl 7 rfl) ?_
        refine lv_bipush (v := 8) hx hb d_M_along_129 (by decide) ?_
        refine lv_aload_n hx hb d_M_along_131 rfl (lv_at hl 0 rfl) ?_
        obtain ⟨v32, e33, h⟩ := gb h
        refine gw_getA hx hb hT hown hK hI (ci := 7) rfl i_7 21 (by decide) wd_807 (fun _ h9 => h9) e33 d_M_along_132 ?_
        refine lv_iconst (v := 1) hx hb d_M_along_135 (by decide) ?_
        obtain ⟨v34, e35, h⟩ := gb h
        refine gw_aldI hx hb hK hI e35 d_M_along_136 ?_
        refine lv_iadd hx hb d_M_along_137 ?_
        refine lv_icmp_ge (tgt := 202) hx hb d_M_along_138 (by decide) (fun c36 => ?_) (fun c36 => ?_)
        · skip
          have h := git c36 h
          exact hK202 _ _ w H locs ls h hI (lv_sub hl [3, 4, 5, 6] rfl)
        · skip
          have h := gie c36 h
          refine lv_lload_n hx hb d_M_along_141 rfl (lv_at hl 1 rfl) ?_
          refine lv_aload_n hx hb d_M_along_142 rfl (lv_at hl 0 rfl) ?_
          obtain ⟨v37, e38, h⟩ := gb h
          refine gw_getA hx hb hT hown hK hI (ci := 7) rfl i_7 22 (by decide) wd_808 (fun _ h9 => h9) e38 d_M_along_143 ?_
          refine lv_iload hx hb d_M_along_146 (lv_at hl 7 rfl) ?_
          obtain ⟨v39, e40, h⟩ := gb h
          refine gw_aldJ hx hb hK hI e40 d_M_along_148 ?_
          refine lv_lmul hx hb d_M_along_149 ?_
          refine lv_lload_n hx hb d_M_along_150 rfl (lv_at hl 2 rfl) ?_
          refine lv_aload_n hx hb d_M_along_151 rfl (lv_at hl 0 rfl) ?_
          obtain ⟨v41, e42, h⟩ := gb h
          refine gw_getA hx hb hT hown hK hI (ci := 7) rfl i_7 23 (by decide) wd_809 (fun _ h9 => h9) e42 d_M_along_152 ?_
          refine lv_iload hx hb d_M_along_155 (lv_at hl 7 rfl) ?_
          obtain ⟨v43, e44, h⟩ := gb h
          refine gw_aldJ hx hb hK hI e44 d_M_along_157 ?_
          refine lv_lmul hx hb d_M_along_158 ?_
          refine lv_ladd hx hb d_M_along_159 ?_
          refine lv_lstore (lv' := [(14, .long ((p1 * v39) + (p2 * v43))), (0, .ref a0), (1, .long p1), (3, .long p2), (5, .long x9), (7, .long x10), (9, .long z29), (11, .long z30), (13, .int z31)]) hx hb d_M_along_160 hl (by decide) rfl (fun ls hl => ?_)
          refine lv_lload hx hb d_M_along_162 (lv_at hl 0 rfl) ?_
          refine lv_lload hx hb d_M_along_164 (lv_at hl 6 rfl) ?_
          refine W.lcmp hx hb d_M_along_166 ?_
          obtain ⟨K177, eK177, h⟩ := gj h
          have hK177 : ∀ (y45 : Int64) (w : gW) (H : Heap) (locs : List Loc) (ls : Array Slot), K177 y45 w = some r → gI D s A w H locs → lv_has ls 16 [(0, .ref a0), (1, .long p1), (3, .long p2), (5, .long x9), (7, .long x10), (11, .long z30), (13, .int z31), (14, .long ((p1 * v39) + (p2 * v43)))] → W p l e rm_M_along s m args below meth c H locs 0 0 Q (F0 m 177 ls [.long y45]) := by
            intro y45 w H locs ls h hI hl
            have h := gk2 eK177 h
            refine lv_lstore (lv' := [(9, .long y45), (0, .ref a0), (1, .long p1), (3, .long p2), (5, .long x9), (7, .long x10), (11, .long z30), (13, .int z31), (14, .long ((p1 * v39) + (p2 * v43)))]) hx hb d_M_along_177 hl (by decide) rfl (fun ls hl => ?_)
            refine lv_lload hx hb d_M_along_179 (lv_at hl 8 rfl) ?_
            refine lv_lload hx hb d_M_along_181 (lv_at hl 6 rfl) ?_
            refine W.lcmp hx hb d_M_along_183 ?_
            obtain ⟨K194, eK194, h⟩ := gj h
            have hK194 : ∀ (y46 : Int64) (w : gW) (H : Heap) (locs : List Loc) (ls : Array Slot), K194 y46 w = some r → gI D s A w H locs → lv_has ls 16 [(0, .ref a0), (1, .long p1), (3, .long p2), (5, .long x9), (7, .long x10), (9, .long y45), (13, .int z31)] → W p l e rm_M_along s m args below meth c H locs 0 0 Q (F0 m 194 ls [.long y46]) := by
              intro y46 w H locs ls h hI hl
              have h := gk2 eK194 h
              refine lv_lstore (lv' := [(11, .long y46), (0, .ref a0), (1, .long p1), (3, .long p2), (5, .long x9), (7, .long x10), (9, .long y45), (13, .int z31)]) hx hb d_M_along_194 hl (by decide) rfl (fun ls hl => ?_)
              refine lv_iinc (v := z31 + 1) (lv' := [(13, .int (z31 + 1)), (11, .long y46), (0, .ref a0), (1, .long p1), (3, .long p2), (5, .long x9), (7, .long x10), (9, .long y45)]) hx hb d_M_along_196 hl (k := 7) rfl rfl (by decide) rfl (fun ls hl => ?_)
              refine lv_goto (tgt := 127) hx hb d_M_along_199 (by decide) ?_
              exact ih _ _ _ w H locs ls h hI (lv_sub hl [2, 3, 4, 5, 6, 7, 1, 0] rfl)
            refine lv_if_le (tgt := 192) hx hb d_M_along_184 (by decide) (fun c47 => ?_) (fun c47 => ?_)
            · have c47 := (lg_cmp_le _ _).mp c47
              have h := git c47 h
              refine lv_lload hx hb d_M_along_192 (lv_at hl 6 rfl) ?_
              exact hK194 _ w H locs ls h hI (lv_sub hl [1, 2, 3, 4, 5, 0, 7] rfl)
            · have c47 := mt (lg_cmp_le _ _).mpr c47
              have h := gie c47 h
              refine lv_lload hx hb d_M_along_187 (lv_at hl 8 rfl) ?_
              refine lv_goto (tgt := 194) hx hb d_M_along_189 (by decide) ?_
              exact hK194 _ w H locs ls h hI (lv_sub hl [1, 2, 3, 4, 5, 0, 7] rfl)
          refine lv_if_ge (tgt := 175) hx hb d_M_along_167 (by decide) (fun c48 => ?_) (fun c48 => ?_)
          · have c48 := (lg_cmp_ge _ _).mp c48
            have h := git c48 h
            refine lv_lload hx hb d_M_along_175 (lv_at hl 6 rfl) ?_
            exact hK177 _ w H locs ls h hI (lv_sub hl [1, 2, 3, 4, 5, 7, 8, 0] rfl)
          · have c48 := mt (lg_cmp_ge _ _).mpr c48
            have h := gie c48 h
            refine lv_lload hx hb d_M_along_170 (lv_at hl 0 rfl) ?_
            refine lv_goto (tgt := 177) hx hb d_M_along_172 (by decide) ?_
            exact hK177 _ w H locs ls h hI (lv_sub hl [1, 2, 3, 4, 5, 7, 8, 0] rfl)
    exact hL127 64 _ _ _ w H locs ls h hI (lv_sub hl [3, 4, 5, 6, 7, 2, 1, 0] rfl)
  have hL26 : ∀ (n : Nat), ∀ (z49 : Int64) (z50 : Int64) (z51 : Int32) (w : gW) (H : Heap) (locs : List Loc) (ls : Array Slot), f_M_along_L26 g0 a0 p1 p2 K98 n z49 z50 z51 w = some r → gI D s A w H locs → lv_has ls 16 [(0, .ref a0), (1, .long p1), (3, .long p2), (5, .long z49), (7, .long z50), (9, .int z51)] → W p l e rm_M_along s m args below meth c H locs 0 0 Q (F0 m 26 ls []) := by
    intro n
    induction n with
    | zero => intro z49 z50 z51 w H locs ls h hI hl; exact absurd h (by simp [f_M_along_L26])
    | succ n ih =>
      intro z49 z50 z51 w H locs ls h hI hl
      rw [f_M_along_L26] at h
      refine lv_iload hx hb d_M_along_26 (lv_at hl 5 rfl) ?_
      refine lv_aload_n hx hb d_M_along_28 rfl (lv_at hl 0 rfl) ?_
      obtain ⟨v52, e53, h⟩ := gb h
      refine gw_getA hx hb hT hown hK hI (ci := 7) rfl i_7 21 (by decide) wd_807 (fun _ h9 => h9) e53 d_M_along_29 ?_
      refine lv_iconst (v := 0) hx hb d_M_along_32 (by decide) ?_
      obtain ⟨v54, e55, h⟩ := gb h
      refine gw_aldI hx hb hK hI e55 d_M_along_33 ?_
      refine lv_icmp_ge (tgt := 98) hx hb d_M_along_34 (by decide) (fun c56 => ?_) (fun c56 => ?_)
      · skip
        have h := git c56 h
        exact hK98 _ _ w H locs ls h hI (lv_sub hl [0, 1, 2, 3, 4] rfl)
      · skip
        have h := gie c56 h
        refine lv_lload_n hx hb d_M_along_37 rfl (lv_at hl 1 rfl) ?_
        refine lv_aload_n hx hb d_M_along_38 rfl (lv_at hl 0 rfl) ?_
        obtain ⟨v57, e58, h⟩ := gb h
        refine gw_getA hx hb hT hown hK hI (ci := 7) rfl i_7 22 (by decide) wd_808 (fun _ h9 => h9) e58 d_M_along_39 ?_
        refine lv_iload hx hb d_M_along_42 (lv_at hl 5 rfl) ?_
        obtain ⟨v59, e60, h⟩ := gb h
        refine gw_aldJ hx hb hK hI e60 d_M_along_44 ?_
        refine lv_lmul hx hb d_M_along_45 ?_
        refine lv_lload_n hx hb d_M_along_46 rfl (lv_at hl 2 rfl) ?_
        refine lv_aload_n hx hb d_M_along_47 rfl (lv_at hl 0 rfl) ?_
        obtain ⟨v61, e62, h⟩ := gb h
        refine gw_getA hx hb hT hown hK hI (ci := 7) rfl i_7 23 (by decide) wd_809 (fun _ h9 => h9) e62 d_M_along_48 ?_
        refine lv_iload hx hb d_M_along_51 (lv_at hl 5 rfl) ?_
        obtain ⟨v63, e64, h⟩ := gb h
        refine gw_aldJ hx hb hK hI e64 d_M_along_53 ?_
        refine lv_lmul hx hb d_M_along_54 ?_
        refine lv_ladd hx hb d_M_along_55 ?_
        refine lv_lstore (lv' := [(10, .long ((p1 * v59) + (p2 * v63))), (0, .ref a0), (1, .long p1), (3, .long p2), (5, .long z49), (7, .long z50), (9, .int z51)]) hx hb d_M_along_56 hl (by decide) rfl (fun ls hl => ?_)
        refine lv_lload hx hb d_M_along_58 (lv_at hl 0 rfl) ?_
        refine lv_lload hx hb d_M_along_60 (lv_at hl 4 rfl) ?_
        refine W.lcmp hx hb d_M_along_62 ?_
        obtain ⟨K73, eK73, h⟩ := gj h
        have hK73 : ∀ (y65 : Int64) (w : gW) (H : Heap) (locs : List Loc) (ls : Array Slot), K73 y65 w = some r → gI D s A w H locs → lv_has ls 16 [(0, .ref a0), (1, .long p1), (3, .long p2), (7, .long z50), (9, .int z51), (10, .long ((p1 * v59) + (p2 * v63)))] → W p l e rm_M_along s m args below meth c H locs 0 0 Q (F0 m 73 ls [.long y65]) := by
          intro y65 w H locs ls h hI hl
          have h := gk2 eK73 h
          refine lv_lstore (lv' := [(5, .long y65), (0, .ref a0), (1, .long p1), (3, .long p2), (7, .long z50), (9, .int z51), (10, .long ((p1 * v59) + (p2 * v63)))]) hx hb d_M_along_73 hl (by decide) rfl (fun ls hl => ?_)
          refine lv_lload hx hb d_M_along_75 (lv_at hl 6 rfl) ?_
          refine lv_lload hx hb d_M_along_77 (lv_at hl 4 rfl) ?_
          refine W.lcmp hx hb d_M_along_79 ?_
          obtain ⟨K90, eK90, h⟩ := gj h
          have hK90 : ∀ (y66 : Int64) (w : gW) (H : Heap) (locs : List Loc) (ls : Array Slot), K90 y66 w = some r → gI D s A w H locs → lv_has ls 16 [(0, .ref a0), (1, .long p1), (3, .long p2), (5, .long y65), (9, .int z51)] → W p l e rm_M_along s m args below meth c H locs 0 0 Q (F0 m 90 ls [.long y66]) := by
            intro y66 w H locs ls h hI hl
            have h := gk2 eK90 h
            refine lv_lstore (lv' := [(7, .long y66), (0, .ref a0), (1, .long p1), (3, .long p2), (5, .long y65), (9, .int z51)]) hx hb d_M_along_90 hl (by decide) rfl (fun ls hl => ?_)
            refine lv_iinc (v := z51 + 1) (lv' := [(9, .int (z51 + 1)), (7, .long y66), (0, .ref a0), (1, .long p1), (3, .long p2), (5, .long y65)]) hx hb d_M_along_92 hl (k := 5) rfl rfl (by decide) rfl (fun ls hl => ?_)
            refine lv_goto (tgt := 26) hx hb d_M_along_95 (by decide) ?_
            exact ih _ _ _ w H locs ls h hI (lv_sub hl [2, 3, 4, 5, 1, 0] rfl)
          refine lv_if_le (tgt := 88) hx hb d_M_along_80 (by decide) (fun c67 => ?_) (fun c67 => ?_)
          · have c67 := (lg_cmp_le _ _).mp c67
            have h := git c67 h
            refine lv_lload hx hb d_M_along_88 (lv_at hl 4 rfl) ?_
            exact hK90 _ w H locs ls h hI (lv_sub hl [1, 2, 3, 0, 5] rfl)
          · have c67 := mt (lg_cmp_le _ _).mpr c67
            have h := gie c67 h
            refine lv_lload hx hb d_M_along_83 (lv_at hl 6 rfl) ?_
            refine lv_goto (tgt := 90) hx hb d_M_along_85 (by decide) ?_
            exact hK90 _ w H locs ls h hI (lv_sub hl [1, 2, 3, 0, 5] rfl)
        refine lv_if_ge (tgt := 71) hx hb d_M_along_63 (by decide) (fun c68 => ?_) (fun c68 => ?_)
        · have c68 := (lg_cmp_ge _ _).mp c68
          have h := git c68 h
          refine lv_lload hx hb d_M_along_71 (lv_at hl 4 rfl) ?_
          exact hK73 _ w H locs ls h hI (lv_sub hl [1, 2, 3, 5, 6, 0] rfl)
        · have c68 := mt (lg_cmp_ge _ _).mpr c68
          have h := gie c68 h
          refine lv_lload hx hb d_M_along_66 (lv_at hl 0 rfl) ?_
          refine lv_goto (tgt := 73) hx hb d_M_along_68 (by decide) ?_
          exact hK73 _ w H locs ls h hI (lv_sub hl [1, 2, 3, 5, 6, 0] rfl)
  exact hL26 64 _ _ _ w H locs ls h hI (lv_sub hl [3, 4, 5, 2, 1, 0] rfl)

abbrev b_M_polygons : ByteArray := prog_9_method_37_code
def y_M_polygons : MethodName := ⟨"BodySolidsModel", "polygons", "()I"⟩
theorem d_M_polygons_0 : decode b_M_polygons 0 = .ok (.iconst 2, 1) := by decide +kernel
theorem d_M_polygons_1 : decode b_M_polygons 1 = .ok (.istore_n 1, 1) := by decide +kernel
theorem d_M_polygons_2 : decode b_M_polygons 2 = .ok (.iconst 0, 1) := by decide +kernel
theorem d_M_polygons_3 : decode b_M_polygons 3 = .ok (.istore_n 2, 1) := by decide +kernel
theorem d_M_polygons_4 : decode b_M_polygons 4 = .ok (.iload_n 2, 1) := by decide +kernel
theorem d_M_polygons_5 : decode b_M_polygons 5 = .ok (.iconst 2, 1) := by decide +kernel
theorem d_M_polygons_6 : decode b_M_polygons 6 = .ok (.if_icmp .ge 106, 3) := by decide +kernel
theorem d_M_polygons_9 : decode b_M_polygons 9 = .ok (.iconst 0, 1) := by decide +kernel
theorem d_M_polygons_10 : decode b_M_polygons 10 = .ok (.istore_n 3, 1) := by decide +kernel
theorem d_M_polygons_11 : decode b_M_polygons 11 = .ok (.iload_n 3, 1) := by decide +kernel
theorem d_M_polygons_12 : decode b_M_polygons 12 = .ok (.aload_n 0, 1) := by decide +kernel
theorem d_M_polygons_13 : decode b_M_polygons 13 = .ok (.getfield 56, 3) := by decide +kernel
theorem d_M_polygons_16 : decode b_M_polygons 16 = .ok (.iload_n 2, 1) := by decide +kernel
theorem d_M_polygons_17 : decode b_M_polygons 17 = .ok (.iaload, 1) := by decide +kernel
theorem d_M_polygons_18 : decode b_M_polygons 18 = .ok (.if_icmp .ge 88, 3) := by decide +kernel
theorem d_M_polygons_21 : decode b_M_polygons 21 = .ok (.iload_n 3, 1) := by decide +kernel
theorem d_M_polygons_22 : decode b_M_polygons 22 = .ok (.iconst 1, 1) := by decide +kernel
theorem d_M_polygons_23 : decode b_M_polygons 23 = .ok (.iadd, 1) := by decide +kernel
theorem d_M_polygons_24 : decode b_M_polygons 24 = .ok (.aload_n 0, 1) := by decide +kernel
theorem d_M_polygons_25 : decode b_M_polygons 25 = .ok (.getfield 56, 3) := by decide +kernel
theorem d_M_polygons_28 : decode b_M_polygons 28 = .ok (.iload_n 2, 1) := by decide +kernel
theorem d_M_polygons_29 : decode b_M_polygons 29 = .ok (.iaload, 1) := by decide +kernel
theorem d_M_polygons_30 : decode b_M_polygons 30 = .ok (.irem, 1) := by decide +kernel
theorem d_M_polygons_31 : decode b_M_polygons 31 = .ok (.istore 4, 2) := by decide +kernel
theorem d_M_polygons_33 : decode b_M_polygons 33 = .ok (.aload_n 0, 1) := by decide +kernel
theorem d_M_polygons_34 : decode b_M_polygons 34 = .ok (.aload_n 0, 1) := by decide +kernel
theorem d_M_polygons_35 : decode b_M_polygons 35 = .ok (.getfield 62, 3) := by decide +kernel
theorem d_M_polygons_38 : decode b_M_polygons 38 = .ok (.bipush 8, 2) := by decide +kernel
theorem d_M_polygons_40 : decode b_M_polygons 40 = .ok (.iload_n 2, 1) := by decide +kernel
theorem d_M_polygons_41 : decode b_M_polygons 41 = .ok (.imul, 1) := by decide +kernel
theorem d_M_polygons_42 : decode b_M_polygons 42 = .ok (.iload 4, 2) := by decide +kernel
theorem d_M_polygons_44 : decode b_M_polygons 44 = .ok (.iadd, 1) := by decide +kernel
theorem d_M_polygons_45 : decode b_M_polygons 45 = .ok (.laload, 1) := by decide +kernel
theorem d_M_polygons_46 : decode b_M_polygons 46 = .ok (.aload_n 0, 1) := by decide +kernel
theorem d_M_polygons_47 : decode b_M_polygons 47 = .ok (.getfield 62, 3) := by decide +kernel
theorem d_M_polygons_50 : decode b_M_polygons 50 = .ok (.bipush 8, 2) := by decide +kernel
theorem d_M_polygons_52 : decode b_M_polygons 52 = .ok (.iload_n 2, 1) := by decide +kernel
theorem d_M_polygons_53 : decode b_M_polygons 53 = .ok (.imul, 1) := by decide +kernel
theorem d_M_polygons_54 : decode b_M_polygons 54 = .ok (.iload_n 3, 1) := by decide +kernel
theorem d_M_polygons_55 : decode b_M_polygons 55 = .ok (.iadd, 1) := by decide +kernel
theorem d_M_polygons_56 : decode b_M_polygons 56 = .ok (.laload, 1) := by decide +kernel
theorem d_M_polygons_57 : decode b_M_polygons 57 = .ok (.lsub, 1) := by decide +kernel
theorem d_M_polygons_58 : decode b_M_polygons 58 = .ok (.aload_n 0, 1) := by decide +kernel
theorem d_M_polygons_59 : decode b_M_polygons 59 = .ok (.getfield 59, 3) := by decide +kernel
theorem d_M_polygons_62 : decode b_M_polygons 62 = .ok (.bipush 8, 2) := by decide +kernel
theorem d_M_polygons_64 : decode b_M_polygons 64 = .ok (.iload_n 2, 1) := by decide +kernel
theorem d_M_polygons_65 : decode b_M_polygons 65 = .ok (.imul, 1) := by decide +kernel
theorem d_M_polygons_66 : decode b_M_polygons 66 = .ok (.iload_n 3, 1) := by decide +kernel
theorem d_M_polygons_67 : decode b_M_polygons 67 = .ok (.iadd, 1) := by decide +kernel
theorem d_M_polygons_68 : decode b_M_polygons 68 = .ok (.laload, 1) := by decide +kernel
theorem d_M_polygons_69 : decode b_M_polygons 69 = .ok (.aload_n 0, 1) := by decide +kernel
theorem d_M_polygons_70 : decode b_M_polygons 70 = .ok (.getfield 59, 3) := by decide +kernel
theorem d_M_polygons_73 : decode b_M_polygons 73 = .ok (.bipush 8, 2) := by decide +kernel
theorem d_M_polygons_75 : decode b_M_polygons 75 = .ok (.iload_n 2, 1) := by decide +kernel
theorem d_M_polygons_76 : decode b_M_polygons 76 = .ok (.imul, 1) := by decide +kernel
theorem d_M_polygons_77 : decode b_M_polygons 77 = .ok (.iload 4, 2) := by decide +kernel
theorem d_M_polygons_79 : decode b_M_polygons 79 = .ok (.iadd, 1) := by decide +kernel
theorem d_M_polygons_80 : decode b_M_polygons 80 = .ok (.laload, 1) := by decide +kernel
theorem d_M_polygons_81 : decode b_M_polygons 81 = .ok (.lsub, 1) := by decide +kernel
theorem d_M_polygons_82 : decode b_M_polygons 82 = .ok (.invokevirtual 190, 3) := by decide +kernel
theorem d_M_polygons_85 : decode b_M_polygons 85 = .ok (.istore 5, 2) := by decide +kernel
theorem d_M_polygons_87 : decode b_M_polygons 87 = .ok (.iload 5, 2) := by decide +kernel
theorem d_M_polygons_89 : decode b_M_polygons 89 = .ok (.iload_n 1, 1) := by decide +kernel
theorem d_M_polygons_90 : decode b_M_polygons 90 = .ok (.if_icmp .ge 8, 3) := by decide +kernel
theorem d_M_polygons_93 : decode b_M_polygons 93 = .ok (.iload 5, 2) := by decide +kernel
theorem d_M_polygons_95 : decode b_M_polygons 95 = .ok (.goto 4, 3) := by decide +kernel
theorem d_M_polygons_98 : decode b_M_polygons 98 = .ok (.iload_n 1, 1) := by decide +kernel
theorem d_M_polygons_99 : decode b_M_polygons 99 = .ok (.istore_n 1, 1) := by decide +kernel
theorem d_M_polygons_100 : decode b_M_polygons 100 = .ok (.iinc 3 1, 3) := by decide +kernel
theorem d_M_polygons_103 : decode b_M_polygons 103 = .ok (.goto (-92), 3) := by decide +kernel
theorem d_M_polygons_106 : decode b_M_polygons 106 = .ok (.iinc 2 1, 3) := by decide +kernel
theorem d_M_polygons_109 : decode b_M_polygons 109 = .ok (.goto (-105), 3) := by decide +kernel
theorem d_M_polygons_112 : decode b_M_polygons 112 = .ok (.iload_n 1, 1) := by decide +kernel
theorem d_M_polygons_113 : decode b_M_polygons 113 = .ok (.ireturn, 1) := by decide +kernel
abbrev rm_M_polygons : Room := { frames := 2, cells := 0, slots := 0, locals := 56 }
theorem ce_M_polygons : gCe y_M_polygons (.code y_M_polygons b_M_polygons 6 (some .int)) 6 0 false := gCe.code wd_1062 wd_57 wd_1061 (by decide) (by decide +kernel)
def f_M_polygons_L11 (g0 : gG) (c0 : Nat) (c2 : Int32) (K106 : Int32 → gW → gX Int32) : Nat → Int32 → Int32 → gW → gX Int32
  | 0, _, _, _ => none
  | n + 1, z1, z3, w => (gfA w c0 7 21).bind fun v4 => (gaI w v4 c2).bind fun v6 => if v6 ≤ z3 then (K106 z1 w) else ((gfA w c0 7 21).bind fun v9 => (gaI w v9 c2).bind fun v11 => gguard (¬ v11 = 0) ((gfA w c0 7 23).bind fun v14 => (gaJ w v14 ((8 * c2) + ((z3 + 1) - (z3 + 1) / v11 * v11))).bind fun v16 => (gfA w c0 7 23).bind fun v18 => (gaJ w v18 ((8 * c2) + z3)).bind fun v20 => (gfA w c0 7 22).bind fun v22 => (gaJ w v22 ((8 * c2) + z3)).bind fun v24 => (gfA w c0 7 22).bind fun v26 => (gaJ w v26 ((8 * c2) + ((z3 + 1) - (z3 + 1) / v11 * v11))).bind fun v28 => (gck w c0 7).bind fun _ => gbind (f_M_along g0 c0 (v16 - v20) (v24 - v28) w) fun v34 w => gjoin (fun K99 => if z1 ≤ v34 then (K99 z1 w) else (K99 v34 w)) (fun (y35 : Int32) (w : gW) => f_M_polygons_L11 g0 c0 c2 K106 n y35 (z3 + 1) w)))
def f_M_polygons_L4 (g0 : gG) (c0 : Nat) (K112 : Int32 → gW → gX Int32) : Nat → Int32 → Int32 → gW → gX Int32
  | 0, _, _, _ => none
  | n + 1, z1, z2, w => if 2 ≤ z2 then (K112 z1 w) else (gjoin (fun K106 => f_M_polygons_L11 g0 c0 z2 K106 64 z1 0 w) (fun (x3 : Int32) (w : gW) => f_M_polygons_L4 g0 c0 K112 n x3 (z2 + 1) w))
def f_M_polygons (g0 : gG) (a0 : Nat) (w : gW) : gX Int32 := gjoin (fun K112 => f_M_polygons_L4 g0 a0 K112 64 2 0 w) (fun (x1 : Int32) (w : gW) => some (.inr x1, w))
set_option maxHeartbeats 4000000 in
set_option maxRecDepth 100000 in
theorem m_M_polygons (l : Launch) (hst : l.stackTraces = false) (D : gD) (g0 : gG) (a0 : Nat) (w : gW) (r : (String ⊕ Int32) × gW) (h : f_M_polygons g0 a0 w = some r) : gMet l y_M_polygons (.code y_M_polygons b_M_polygons 6 (some .int)) rm_M_polygons D g0 [.ref a0] w (goI r) := by
  refine gw_ofI (by decide +kernel) (Nat.le_of_ble_eq_true rfl) ?_
  intro p e s m below meth c ls args A Q hx hb hml hown hlocks hin hnt hT hK hZ hA hret hexc hthr hI hl
  obtain ⟨H, hH⟩ : ∃ H, H = s.heap := ⟨_, rfl⟩
  rw [← hH] at hI ⊢
  obtain ⟨locs, hlocs⟩ : ∃ z : List Loc, z = [] := ⟨_, rfl⟩
  rw [← hlocs] at hI ⊢
  have hl : lv_has ls 6 [(0, .ref a0)] := hl
  unfold f_M_polygons at h
  refine lv_iconst (v := 2) hx hb d_M_polygons_0 (by decide) ?_
  refine lv_istore_n (lv' := [(1, .int 2), (0, .ref a0)]) hx hb d_M_polygons_1 rfl hl (by decide) rfl (fun ls hl => ?_)
  refine lv_iconst (v := 0) hx hb d_M_polygons_2 (by decide) ?_
  refine lv_istore_n (lv' := [(2, .int 0), (1, .int 2), (0, .ref a0)]) hx hb d_M_polygons_3 rfl hl (by decide) rfl (fun ls hl => ?_)
  obtain ⟨K112, eK112, h⟩ := gj h
  have hK112 : ∀ (x1 : Int32) (w : gW) (H : Heap) (locs : List Loc) (ls : Array Slot), K112 x1 w = some r → gI D s A w H locs → lv_has ls 6 [(1, .int x1)] → W p l e rm_M_polygons s m args below meth c H locs 0 0 Q (F0 m 112 ls []) := by
    intro x1 w H locs ls h hI hl
    have h := gk2 eK112 h
    refine lv_iload_n hx hb d_M_polygons_112 rfl (lv_at hl 0 rfl) ?_
    exact W.widen (show 0 ≤ 0 by omega) (show 0 ≤ 0 by omega) (hret _ _ (Option.some.inj h).symm _ _ _ _ d_M_polygons_113 hI)
  have hL4 : ∀ (n : Nat), ∀ (z2 : Int32) (z3 : Int32) (w : gW) (H : Heap) (locs : List Loc) (ls : Array Slot), f_M_polygons_L4 g0 a0 K112 n z2 z3 w = some r → gI D s A w H locs → lv_has ls 6 [(0, .ref a0), (1, .int z2), (2, .int z3)] → W p l e rm_M_polygons s m args below meth c H locs 0 0 Q (F0 m 4 ls []) := by
    intro n
    induction n with
    | zero => intro z2 z3 w H locs ls h hI hl; exact absurd h (by simp [f_M_polygons_L4])
    | succ n ih =>
      intro z2 z3 w H locs ls h hI hl
      rw [f_M_polygons_L4] at h
      refine lv_iload_n hx hb d_M_polygons_4 rfl (lv_at hl 2 rfl) ?_
      refine lv_iconst (v := 2) hx hb d_M_polygons_5 (by decide) ?_
      refine lv_icmp_ge (tgt := 112) hx hb d_M_polygons_6 (by decide) (fun c4 => ?_) (fun c4 => ?_)
      · skip
        have h := git c4 h
        exact hK112 _ w H locs ls h hI (lv_sub hl [1] rfl)
      · skip
        have h := gie c4 h
        refine lv_iconst (v := 0) hx hb d_M_polygons_9 (by decide) ?_
        refine lv_istore_n (lv' := [(3, .int 0), (0, .ref a0), (1, .int z2), (2, .int z3)]) hx hb d_M_polygons_10 rfl hl (by decide) rfl (fun ls hl => ?_)
        obtain ⟨K106, eK106, h⟩ := gj h
        have hK106 : ∀ (x5 : Int32) (w : gW) (H : Heap) (locs : List Loc) (ls : Array Slot), K106 x5 w = some r → gI D s A w H locs → lv_has ls 6 [(0, .ref a0), (1, .int x5), (2, .int z3)] → W p l e rm_M_polygons s m args below meth c H locs 0 0 Q (F0 m 106 ls []) := by
          intro x5 w H locs ls h hI hl
          have h := gk2 eK106 h
          refine lv_iinc (v := z3 + 1) (lv' := [(2, .int (z3 + 1)), (0, .ref a0), (1, .int x5)]) hx hb d_M_polygons_106 hl (k := 2) rfl rfl (by decide) rfl (fun ls hl => ?_)
          refine lv_goto (tgt := 4) hx hb d_M_polygons_109 (by decide) ?_
          exact ih _ _ w H locs ls h hI (lv_sub hl [1, 2, 0] rfl)
        have hL11 : ∀ (n : Nat), ∀ (z6 : Int32) (z7 : Int32) (w : gW) (H : Heap) (locs : List Loc) (ls : Array Slot), f_M_polygons_L11 g0 a0 z3 K106 n z6 z7 w = some r → gI D s A w H locs → lv_has ls 6 [(0, .ref a0), (2, .int z3), (1, .int z6), (3, .int z7)] → W p l e rm_M_polygons s m args below meth c H locs 0 0 Q (F0 m 11 ls []) := by
          intro n
          induction n with
          | zero => intro z6 z7 w H locs ls h hI hl; exact absurd h (by simp [f_M_polygons_L11])
          | succ n ih =>
            intro z6 z7 w H locs ls h hI hl
            rw [f_M_polygons_L11] at h
            refine lv_iload_n hx hb d_M_polygons_11 rfl (lv_at hl 3 rfl) ?_
            refine lv_aload_n hx hb d_M_polygons_12 rfl (lv_at hl 0 rfl) ?_
            obtain ⟨v8, e9, h⟩ := gb h
            refine gw_getA hx hb hT hown hK hI (ci := 7) rfl i_7 21 (by decide) wd_807 (fun _ h9 => h9) e9 d_M_polygons_13 ?_
            refine lv_iload_n hx hb d_M_polygons_16 rfl (lv_at hl 1 rfl) ?_
            obtain ⟨v10, e11, h⟩ := gb h
            refine gw_aldI hx hb hK hI e11 d_M_polygons_17 ?_
            refine lv_icmp_ge (tgt := 106) hx hb d_M_polygons_18 (by decide) (fun c12 => ?_) (fun c12 => ?_)
            · skip
              have h := git c12 h
              exact hK106 _ w H locs ls h hI (lv_sub hl [0, 2, 1] rfl)
            · skip
              have h := gie c12 h
              refine lv_iload_n hx hb d_M_polygons_21 rfl (lv_at hl 3 rfl) ?_
              refine lv_iconst (v := 1) hx hb d_M_polygons_22 (by decide) ?_
              refine lv_iadd hx hb d_M_polygons_23 ?_
              refine lv_aload_n hx hb d_M_polygons_24 rfl (lv_at hl 0 rfl) ?_
              obtain ⟨v13, e14, h⟩ := gb h
              refine gw_getA hx hb hT hown hK hI (ci := 7) rfl i_7 21 (by decide) wd_807 (fun _ h9 => h9) e14 d_M_polygons_25 ?_
              refine lv_iload_n hx hb d_M_polygons_28 rfl (lv_at hl 1 rfl) ?_
              obtain ⟨v15, e16, h⟩ := gb h
              refine gw_aldI hx hb hK hI e16 d_M_polygons_29 ?_
              obtain ⟨g17, h⟩ := gif h
              refine lv_irem hx hb d_M_polygons_30 g17 ?_
              refine lv_istore (lv' := [(4, .int ((z7 + 1) - (z7 + 1) / v15 * v15)), (0, .ref a0), (2, .int z3), (1, .int z6), (3, .int z7)]) hx hb d_M_polygons_31 hl (by decide) rfl (fun ls hl => ?_)
              refine lv_aload_n hx hb d_M_polygons_33 rfl (lv_at hl 1 rfl) ?_
              refine lv_aload_n hx hb d_M_polygons_34 rfl (lv_at hl 1 rfl) ?_
              obtain ⟨v18, e19, h⟩ := gb h
              refine gw_getA hx hb hT hown hK hI (ci := 7) rfl i_7 23 (by decide) wd_809 (fun _ h9 => h9) e19 d_M_polygons_35 ?_
              refine lv_bipush (v := 8) hx hb d_M_polygons_38 (by decide) ?_
              refine lv_iload_n hx hb d_M_polygons_40 rfl (lv_at hl 2 rfl) ?_
              refine lv_imul hx hb d_M_polygons_41 ?_
              refine lv_iload hx hb d_M_polygons_42 (lv_at hl 0 rfl) ?_
              refine lv_iadd hx hb d_M_polygons_44 ?_
              obtain ⟨v20, e21, h⟩ := gb h
              refine gw_aldJ hx hb hK hI e21 d_M_polygons_45 ?_
              refine lv_aload_n hx hb d_M_polygons_46 rfl (lv_at hl 1 rfl) ?_
              obtain ⟨v22, e23, h⟩ := gb h
              refine gw_getA hx hb hT hown hK hI (ci := 7) rfl i_7 23 (by decide) wd_809 (fun _ h9 => h9) e23 d_M_polygons_47 ?_
              refine lv_bipush (v := 8) hx hb d_M_polygons_50 (by decide) ?_
              refine lv_iload_n hx hb d_M_polygons_52 rfl (lv_at hl 2 rfl) ?_
              refine lv_imul hx hb d_M_polygons_53 ?_
              refine lv_iload_n hx hb d_M_polygons_54 rfl (lv_at hl 4 rfl) ?_
              refine lv_iadd hx hb d_M_polygons_55 ?_
              obtain ⟨v24, e25, h⟩ := gb h
              refine gw_aldJ hx hb hK hI e25 d_M_polygons_56 ?_
              refine lv_lsub hx hb d_M_polygons_57 ?_
              refine lv_aload_n hx hb d_M_polygons_58 rfl (lv_at hl 1 rfl) ?_
              obtain ⟨v26, e27, h⟩ := gb h
              refine gw_getA hx hb hT hown hK hI (ci := 7) rfl i_7 22 (by decide) wd_808 (fun _ h9 => h9) e27 d_M_polygons_59 ?_
              refine lv_bipush (v := 8) hx hb d_M_polygons_62 (by decide) ?_
              refine lv_iload_n hx hb d_M_polygons_64 rfl (lv_at hl 2 rfl) ?_
              refine lv_imul hx hb d_M_polygons_65 ?_
              refine lv_iload_n hx hb d_M_polygons_66 rfl (lv_at hl 4 rfl) ?_
              refine lv_iadd hx hb d_M_polygons_67 ?_
              obtain ⟨v28, e29, h⟩ := gb h
              refine gw_aldJ hx hb hK hI e29 d_M_polygons_68 ?_
              refine lv_aload_n hx hb d_M_polygons_69 rfl (lv_at hl 1 rfl) ?_
              obtain ⟨v30, e31, h⟩ := gb h
              refine gw_getA hx hb hT hown hK hI (ci := 7) rfl i_7 22 (by decide) wd_808 (fun _ h9 => h9) e31 d_M_polygons_70 ?_
              refine lv_bipush (v := 8) hx hb d_M_polygons_73 (by decide) ?_
              refine lv_iload_n hx hb d_M_polygons_75 rfl (lv_at hl 2 rfl) ?_
              refine lv_imul hx hb d_M_polygons_76 ?_
              refine lv_iload hx hb d_M_polygons_77 (lv_at hl 0 rfl) ?_
              refine lv_iadd hx hb d_M_polygons_79 ?_
              obtain ⟨v32, e33, h⟩ := gb h
              refine gw_aldJ hx hb hK hI e33 d_M_polygons_80 ?_
              refine lv_lsub hx hb d_M_polygons_81 ?_
              obtain ⟨q36, e37, h⟩ := gb h
              obtain ⟨u34, e35⟩ := gsome h
              refine gw_callI e35 h (gw_runV (As := [.long (v20 - v24), .long (v28 - v32)]) (rest := []) hx hb hml hown hT hK hZ hA hI (ci := 7) rfl e37 (m_M_along l hst D g0 a0 (v20 - v24) (v28 - v32) w u34 e35) ce_M_along wd_1063 wd_43 ⟨by decide, by decide⟩ rfl rfl hl.1 rfl (lv_room (Nat.le_of_ble_eq_true rfl)) d_M_polygons_82 ⟨(show 0 + 0 ≤ 0 by omega), (show 0 + 0 ≤ 0 by omega)⟩) hI hA hexc (show 0 + 0 ≤ 0 by omega) (show 0 + 0 ≤ 0 by omega) (fun v38 w H locs h hI => ?_)
              refine lv_istore (lv' := [(5, .int v38), (4, .int ((z7 + 1) - (z7 + 1) / v15 * v15)), (0, .ref a0), (2, .int z3), (1, .int z6), (3, .int z7)]) hx hb d_M_polygons_85 hl (by decide) rfl (fun ls hl => ?_)
              refine lv_iload hx hb d_M_polygons_87 (lv_at hl 0 rfl) ?_
              refine lv_iload_n hx hb d_M_polygons_89 rfl (lv_at hl 4 rfl) ?_
              obtain ⟨K99, eK99, h⟩ := gj h
              have hK99 : ∀ (y39 : Int32) (w : gW) (H : Heap) (locs : List Loc) (ls : Array Slot), K99 y39 w = some r → gI D s A w H locs → lv_has ls 6 [(0, .ref a0), (2, .int z3), (3, .int z7)] → W p l e rm_M_polygons s m args below meth c H locs 0 0 Q (F0 m 99 ls [.int y39]) := by
                intro y39 w H locs ls h hI hl
                have h := gk2 eK99 h
                refine lv_istore_n (lv' := [(1, .int y39), (0, .ref a0), (2, .int z3), (3, .int z7)]) hx hb d_M_polygons_99 rfl hl (by decide) rfl (fun ls hl => ?_)
                refine lv_iinc (v := z7 + 1) (lv' := [(3, .int (z7 + 1)), (1, .int y39), (0, .ref a0), (2, .int z3)]) hx hb d_M_polygons_100 hl (k := 3) rfl rfl (by decide) rfl (fun ls hl => ?_)
                refine lv_goto (tgt := 11) hx hb d_M_polygons_103 (by decide) ?_
                exact ih _ _ w H locs ls h hI (lv_sub hl [2, 3, 1, 0] rfl)
              refine lv_icmp_ge (tgt := 98) hx hb d_M_polygons_90 (by decide) (fun c40 => ?_) (fun c40 => ?_)
              · skip
                have h := git c40 h
                refine lv_iload_n hx hb d_M_polygons_98 rfl (lv_at hl 4 rfl) ?_
                exact hK99 _ w H locs ls h hI (lv_sub hl [2, 3, 5] rfl)
              · skip
                have h := gie c40 h
                refine lv_iload hx hb d_M_polygons_93 (lv_at hl 0 rfl) ?_
                refine lv_goto (tgt := 99) hx hb d_M_polygons_95 (by decide) ?_
                exact hK99 _ w H locs ls h hI (lv_sub hl [2, 3, 5] rfl)
        exact hL11 64 _ _ w H locs ls h hI (lv_sub hl [1, 3, 2, 0] rfl)
  exact hL4 64 _ _ w H locs ls h hI (lv_sub hl [2, 1, 0] rfl)

abbrev b_M_bases : ByteArray := prog_9_method_50_code
def y_M_bases : MethodName := ⟨"BodySolidsModel", "bases", "()I"⟩
theorem d_M_bases_0 : decode b_M_bases 0 = .ok (.aload_n 0, 1) := by decide +kernel
theorem d_M_bases_1 : decode b_M_bases 1 = .ok (.getfield 53, 3) := by decide +kernel
theorem d_M_bases_4 : decode b_M_bases 4 = .ok (.iconst 0, 1) := by decide +kernel
theorem d_M_bases_5 : decode b_M_bases 5 = .ok (.iaload, 1) := by decide +kernel
theorem d_M_bases_6 : decode b_M_bases 6 = .ok (.iconst 2, 1) := by decide +kernel
theorem d_M_bases_7 : decode b_M_bases 7 = .ok (.if_icmp .ne 18, 3) := by decide +kernel
theorem d_M_bases_10 : decode b_M_bases 10 = .ok (.aload_n 0, 1) := by decide +kernel
theorem d_M_bases_11 : decode b_M_bases 11 = .ok (.getfield 53, 3) := by decide +kernel
theorem d_M_bases_14 : decode b_M_bases 14 = .ok (.iconst 1, 1) := by decide +kernel
theorem d_M_bases_15 : decode b_M_bases 15 = .ok (.iaload, 1) := by decide +kernel
theorem d_M_bases_16 : decode b_M_bases 16 = .ok (.iconst 2, 1) := by decide +kernel
theorem d_M_bases_17 : decode b_M_bases 17 = .ok (.if_icmp .ne 8, 3) := by decide +kernel
theorem d_M_bases_20 : decode b_M_bases 20 = .ok (.aload_n 0, 1) := by decide +kernel
theorem d_M_bases_21 : decode b_M_bases 21 = .ok (.invokevirtual 235, 3) := by decide +kernel
theorem d_M_bases_24 : decode b_M_bases 24 = .ok (.ireturn, 1) := by decide +kernel
theorem d_M_bases_25 : decode b_M_bases 25 = .ok (.aload_n 0, 1) := by decide +kernel
theorem d_M_bases_26 : decode b_M_bases 26 = .ok (.getfield 53, 3) := by decide +kernel
theorem d_M_bases_29 : decode b_M_bases 29 = .ok (.iconst 0, 1) := by decide +kernel
theorem d_M_bases_30 : decode b_M_bases 30 = .ok (.iaload, 1) := by decide +kernel
theorem d_M_bases_31 : decode b_M_bases 31 = .ok (.iconst 2, 1) := by decide +kernel
theorem d_M_bases_32 : decode b_M_bases 32 = .ok (.if_icmp .ne 36, 3) := by decide +kernel
theorem d_M_bases_35 : decode b_M_bases 35 = .ok (.aload_n 0, 1) := by decide +kernel
theorem d_M_bases_36 : decode b_M_bases 36 = .ok (.iconst 0, 1) := by decide +kernel
theorem d_M_bases_37 : decode b_M_bases 37 = .ok (.aload_n 0, 1) := by decide +kernel
theorem d_M_bases_38 : decode b_M_bases 38 = .ok (.getfield 59, 3) := by decide +kernel
theorem d_M_bases_41 : decode b_M_bases 41 = .ok (.bipush 8, 2) := by decide +kernel
theorem d_M_bases_43 : decode b_M_bases 43 = .ok (.laload, 1) := by decide +kernel
theorem d_M_bases_44 : decode b_M_bases 44 = .ok (.aload_n 0, 1) := by decide +kernel
theorem d_M_bases_45 : decode b_M_bases 45 = .ok (.getfield 62, 3) := by decide +kernel
theorem d_M_bases_48 : decode b_M_bases 48 = .ok (.bipush 8, 2) := by decide +kernel
theorem d_M_bases_50 : decode b_M_bases 50 = .ok (.laload, 1) := by decide +kernel
theorem d_M_bases_51 : decode b_M_bases 51 = .ok (.aload_n 0, 1) := by decide +kernel
theorem d_M_bases_52 : decode b_M_bases 52 = .ok (.getfield 65, 3) := by decide +kernel
theorem d_M_bases_55 : decode b_M_bases 55 = .ok (.iconst 1, 1) := by decide +kernel
theorem d_M_bases_56 : decode b_M_bases 56 = .ok (.laload, 1) := by decide +kernel
theorem d_M_bases_57 : decode b_M_bases 57 = .ok (.aload_n 0, 1) := by decide +kernel
theorem d_M_bases_58 : decode b_M_bases 58 = .ok (.getfield 65, 3) := by decide +kernel
theorem d_M_bases_61 : decode b_M_bases 61 = .ok (.iconst 1, 1) := by decide +kernel
theorem d_M_bases_62 : decode b_M_bases 62 = .ok (.laload, 1) := by decide +kernel
theorem d_M_bases_63 : decode b_M_bases 63 = .ok (.lmul, 1) := by decide +kernel
theorem d_M_bases_64 : decode b_M_bases 64 = .ok (.invokevirtual 208, 3) := by decide +kernel
theorem d_M_bases_67 : decode b_M_bases 67 = .ok (.ireturn, 1) := by decide +kernel
theorem d_M_bases_68 : decode b_M_bases 68 = .ok (.aload_n 0, 1) := by decide +kernel
theorem d_M_bases_69 : decode b_M_bases 69 = .ok (.getfield 53, 3) := by decide +kernel
theorem d_M_bases_72 : decode b_M_bases 72 = .ok (.iconst 1, 1) := by decide +kernel
theorem d_M_bases_73 : decode b_M_bases 73 = .ok (.iaload, 1) := by decide +kernel
theorem d_M_bases_74 : decode b_M_bases 74 = .ok (.iconst 2, 1) := by decide +kernel
theorem d_M_bases_75 : decode b_M_bases 75 = .ok (.if_icmp .ne 34, 3) := by decide +kernel
theorem d_M_bases_78 : decode b_M_bases 78 = .ok (.aload_n 0, 1) := by decide +kernel
theorem d_M_bases_79 : decode b_M_bases 79 = .ok (.iconst 1, 1) := by decide +kernel
theorem d_M_bases_80 : decode b_M_bases 80 = .ok (.aload_n 0, 1) := by decide +kernel
theorem d_M_bases_81 : decode b_M_bases 81 = .ok (.getfield 59, 3) := by decide +kernel
theorem d_M_bases_84 : decode b_M_bases 84 = .ok (.iconst 0, 1) := by decide +kernel
theorem d_M_bases_85 : decode b_M_bases 85 = .ok (.laload, 1) := by decide +kernel
theorem d_M_bases_86 : decode b_M_bases 86 = .ok (.aload_n 0, 1) := by decide +kernel
theorem d_M_bases_87 : decode b_M_bases 87 = .ok (.getfield 62, 3) := by decide +kernel
theorem d_M_bases_90 : decode b_M_bases 90 = .ok (.iconst 0, 1) := by decide +kernel
theorem d_M_bases_91 : decode b_M_bases 91 = .ok (.laload, 1) := by decide +kernel
theorem d_M_bases_92 : decode b_M_bases 92 = .ok (.aload_n 0, 1) := by decide +kernel
theorem d_M_bases_93 : decode b_M_bases 93 = .ok (.getfield 65, 3) := by decide +kernel
theorem d_M_bases_96 : decode b_M_bases 96 = .ok (.iconst 0, 1) := by decide +kernel
theorem d_M_bases_97 : decode b_M_bases 97 = .ok (.laload, 1) := by decide +kernel
theorem d_M_bases_98 : decode b_M_bases 98 = .ok (.aload_n 0, 1) := by decide +kernel
theorem d_M_bases_99 : decode b_M_bases 99 = .ok (.getfield 65, 3) := by decide +kernel
theorem d_M_bases_102 : decode b_M_bases 102 = .ok (.iconst 0, 1) := by decide +kernel
theorem d_M_bases_103 : decode b_M_bases 103 = .ok (.laload, 1) := by decide +kernel
theorem d_M_bases_104 : decode b_M_bases 104 = .ok (.lmul, 1) := by decide +kernel
theorem d_M_bases_105 : decode b_M_bases 105 = .ok (.invokevirtual 208, 3) := by decide +kernel
theorem d_M_bases_108 : decode b_M_bases 108 = .ok (.ireturn, 1) := by decide +kernel
theorem d_M_bases_109 : decode b_M_bases 109 = .ok (.aload_n 0, 1) := by decide +kernel
theorem d_M_bases_110 : decode b_M_bases 110 = .ok (.getfield 65, 3) := by decide +kernel
theorem d_M_bases_113 : decode b_M_bases 113 = .ok (.iconst 0, 1) := by decide +kernel
theorem d_M_bases_114 : decode b_M_bases 114 = .ok (.laload, 1) := by decide +kernel
theorem d_M_bases_115 : decode b_M_bases 115 = .ok (.aload_n 0, 1) := by decide +kernel
theorem d_M_bases_116 : decode b_M_bases 116 = .ok (.getfield 65, 3) := by decide +kernel
theorem d_M_bases_119 : decode b_M_bases 119 = .ok (.iconst 1, 1) := by decide +kernel
theorem d_M_bases_120 : decode b_M_bases 120 = .ok (.laload, 1) := by decide +kernel
theorem d_M_bases_121 : decode b_M_bases 121 = .ok (.ladd, 1) := by decide +kernel
theorem d_M_bases_122 : decode b_M_bases 122 = .ok (.lstore_n 1, 1) := by decide +kernel
theorem d_M_bases_123 : decode b_M_bases 123 = .ok (.aload_n 0, 1) := by decide +kernel
theorem d_M_bases_124 : decode b_M_bases 124 = .ok (.getfield 59, 3) := by decide +kernel
theorem d_M_bases_127 : decode b_M_bases 127 = .ok (.iconst 0, 1) := by decide +kernel
theorem d_M_bases_128 : decode b_M_bases 128 = .ok (.laload, 1) := by decide +kernel
theorem d_M_bases_129 : decode b_M_bases 129 = .ok (.aload_n 0, 1) := by decide +kernel
theorem d_M_bases_130 : decode b_M_bases 130 = .ok (.getfield 59, 3) := by decide +kernel
theorem d_M_bases_133 : decode b_M_bases 133 = .ok (.bipush 8, 2) := by decide +kernel
theorem d_M_bases_135 : decode b_M_bases 135 = .ok (.laload, 1) := by decide +kernel
theorem d_M_bases_136 : decode b_M_bases 136 = .ok (.lsub, 1) := by decide +kernel
theorem d_M_bases_137 : decode b_M_bases 137 = .ok (.aload_n 0, 1) := by decide +kernel
theorem d_M_bases_138 : decode b_M_bases 138 = .ok (.getfield 62, 3) := by decide +kernel
theorem d_M_bases_141 : decode b_M_bases 141 = .ok (.iconst 0, 1) := by decide +kernel
theorem d_M_bases_142 : decode b_M_bases 142 = .ok (.laload, 1) := by decide +kernel
theorem d_M_bases_143 : decode b_M_bases 143 = .ok (.aload_n 0, 1) := by decide +kernel
theorem d_M_bases_144 : decode b_M_bases 144 = .ok (.getfield 62, 3) := by decide +kernel
theorem d_M_bases_147 : decode b_M_bases 147 = .ok (.bipush 8, 2) := by decide +kernel
theorem d_M_bases_149 : decode b_M_bases 149 = .ok (.laload, 1) := by decide +kernel
theorem d_M_bases_150 : decode b_M_bases 150 = .ok (.lsub, 1) := by decide +kernel
theorem d_M_bases_151 : decode b_M_bases 151 = .ok (.invokestatic 194, 3) := by decide +kernel
theorem d_M_bases_154 : decode b_M_bases 154 = .ok (.lload_n 1, 1) := by decide +kernel
theorem d_M_bases_155 : decode b_M_bases 155 = .ok (.lload_n 1, 1) := by decide +kernel
theorem d_M_bases_156 : decode b_M_bases 156 = .ok (.lmul, 1) := by decide +kernel
theorem d_M_bases_157 : decode b_M_bases 157 = .ok (.lsub, 1) := by decide +kernel
theorem d_M_bases_158 : decode b_M_bases 158 = .ok (.invokestatic 186, 3) := by decide +kernel
theorem d_M_bases_161 : decode b_M_bases 161 = .ok (.ireturn, 1) := by decide +kernel
abbrev rm_M_bases : Room := { frames := 3, cells := 0, slots := 0, locals := 101 }
theorem ce_M_bases : gCe y_M_bases (.code y_M_bases b_M_bases 3 (some .int)) 3 0 false := gCe.code wd_1058 wd_57 wd_1057 (by decide) (by decide +kernel)
def f_M_bases (g0 : gG) (a0 : Nat) (w : gW) : gX Int32 := (gfA w a0 7 20).bind fun v1 => (gaI w v1 0).bind fun v3 => gjoin (fun K25 => if v3 = 2 then ((gfA w a0 7 20).bind fun v88 => (gaI w v88 1).bind fun v90 => if v90 = 2 then ((gck w a0 7).bind fun _ => gbind (f_M_polygons g0 a0 w) fun v97 w => some (.inr v97, w)) else (K25 w)) else (K25 w)) (fun (w : gW) => (gfA w a0 7 20).bind fun v5 => (gaI w v5 0).bind fun v7 => if v7 = 2 then ((gfA w a0 7 22).bind fun v66 => (gaJ w v66 8).bind fun v68 => (gfA w a0 7 23).bind fun v70 => (gaJ w v70 8).bind fun v72 => (gfA w a0 7 24).bind fun v74 => (gaJ w v74 1).bind fun v76 => (gfA w a0 7 24).bind fun v78 => (gaJ w v78 1).bind fun v80 => (gck w a0 7).bind fun _ => gbind (f_M_fromPolygon g0 a0 0 v68 v72 (v76 * v80) w) fun v86 w => some (.inr v86, w)) else ((gfA w a0 7 20).bind fun v10 => (gaI w v10 1).bind fun v12 => if v12 = 2 then ((gfA w a0 7 22).bind fun v45 => (gaJ w v45 0).bind fun v47 => (gfA w a0 7 23).bind fun v49 => (gaJ w v49 0).bind fun v51 => (gfA w a0 7 24).bind fun v53 => (gaJ w v53 0).bind fun v55 => (gfA w a0 7 24).bind fun v57 => (gaJ w v57 0).bind fun v59 => (gck w a0 7).bind fun _ => gbind (f_M_fromPolygon g0 a0 1 v47 v51 (v55 * v59) w) fun v65 w => some (.inr v65, w)) else ((gfA w a0 7 24).bind fun v15 => (gaJ w v15 0).bind fun v17 => (gfA w a0 7 24).bind fun v19 => (gaJ w v19 1).bind fun v21 => (gfA w a0 7 22).bind fun v23 => (gaJ w v23 0).bind fun v25 => (gfA w a0 7 22).bind fun v27 => (gaJ w v27 8).bind fun v29 => (gfA w a0 7 23).bind fun v31 => (gaJ w v31 0).bind fun v33 => (gfA w a0 7 23).bind fun v35 => (gaJ w v35 8).bind fun v37 => gbind (f_M_square g0 (v25 - v29) (v33 - v37) w) fun v41 w => gbind (f_M_common g0 (v41 - ((v17 + v21) * (v17 + v21))) w) fun v44 w => some (.inr v44, w))))
set_option maxHeartbeats 4000000 in
set_option maxRecDepth 100000 in
theorem m_M_bases (l : Launch) (hst : l.stackTraces = false) (D : gD) (g0 : gG) (a0 : Nat) (w : gW) (r : (String ⊕ Int32) × gW) (h : f_M_bases g0 a0 w = some r) : gMet l y_M_bases (.code y_M_bases b_M_bases 3 (some .int)) rm_M_bases D g0 [.ref a0] w (goI r) := by
  refine gw_ofI (by decide +kernel) (Nat.le_of_ble_eq_true rfl) ?_
  intro p e s m below meth c ls args A Q hx hb hml hown hlocks hin hnt hT hK hZ hA hret hexc hthr hI hl
  obtain ⟨H, hH⟩ : ∃ H, H = s.heap := ⟨_, rfl⟩
  rw [← hH] at hI ⊢
  obtain ⟨locs, hlocs⟩ : ∃ z : List Loc, z = [] := ⟨_, rfl⟩
  rw [← hlocs] at hI ⊢
  have hl : lv_has ls 3 [(0, .ref a0)] := hl
  unfold f_M_bases at h
  refine lv_aload_n hx hb d_M_bases_0 rfl (lv_at hl 0 rfl) ?_
  obtain ⟨v1, e2, h⟩ := gb h
  refine gw_getA hx hb hT hown hK hI (ci := 7) rfl i_7 20 (by decide) wd_806 (fun _ h9 => h9) e2 d_M_bases_1 ?_
  refine lv_iconst (v := 0) hx hb d_M_bases_4 (by decide) ?_
  obtain ⟨v3, e4, h⟩ := gb h
  refine gw_aldI hx hb hK hI e4 d_M_bases_5 ?_
  refine lv_iconst (v := 2) hx hb d_M_bases_6 (by decide) ?_
  obtain ⟨K25, eK25, h⟩ := gj h
  have hK25 : ∀ (w : gW) (H : Heap) (locs : List Loc) (ls : Array Slot), K25 w = some r → gI D s A w H locs → lv_has ls 3 [(0, .ref a0)] → W p l e rm_M_bases s m args below meth c H locs 0 0 Q (F0 m 25 ls []) := by
    intro w H locs ls h hI hl
    have h := gk1 eK25 h
    refine lv_aload_n hx hb d_M_bases_25 rfl (lv_at hl 0 rfl) ?_
    obtain ⟨v5, e6, h⟩ := gb h
    refine gw_getA hx hb hT hown hK hI (ci := 7) rfl i_7 20 (by decide) wd_806 (fun _ h9 => h9) e6 d_M_bases_26 ?_
    refine lv_iconst (v := 0) hx hb d_M_bases_29 (by decide) ?_
    obtain ⟨v7, e8, h⟩ := gb h
    refine gw_aldI hx hb hK hI e8 d_M_bases_30 ?_
    refine lv_iconst (v := 2) hx hb d_M_bases_31 (by decide) ?_
    refine lv_icmp_ne (tgt := 68) hx hb d_M_bases_32 (by decide) (fun c9 => ?_) (fun c9 => ?_)
    · skip
      have h := gie c9 h
      refine lv_aload_n hx hb d_M_bases_68 rfl (lv_at hl 0 rfl) ?_
      obtain ⟨v10, e11, h⟩ := gb h
      refine gw_getA hx hb hT hown hK hI (ci := 7) rfl i_7 20 (by decide) wd_806 (fun _ h9 => h9) e11 d_M_bases_69 ?_
      refine lv_iconst (v := 1) hx hb d_M_bases_72 (by decide) ?_
      obtain ⟨v12, e13, h⟩ := gb h
      refine gw_aldI hx hb hK hI e13 d_M_bases_73 ?_
      refine lv_iconst (v := 2) hx hb d_M_bases_74 (by decide) ?_
      refine lv_icmp_ne (tgt := 109) hx hb d_M_bases_75 (by decide) (fun c14 => ?_) (fun c14 => ?_)
      · skip
        have h := gie c14 h
        refine lv_aload_n hx hb d_M_bases_109 rfl (lv_at hl 0 rfl) ?_
        obtain ⟨v15, e16, h⟩ := gb h
        refine gw_getA hx hb hT hown hK hI (ci := 7) rfl i_7 24 (by decide) wd_810 (fun _ h9 => h9) e16 d_M_bases_110 ?_
        refine lv_iconst (v := 0) hx hb d_M_bases_113 (by decide) ?_
        obtain ⟨v17, e18, h⟩ := gb h
        refine gw_aldJ hx hb hK hI e18 d_M_bases_114 ?_
        refine lv_aload_n hx hb d_M_bases_115 rfl (lv_at hl 0 rfl) ?_
        obtain ⟨v19, e20, h⟩ := gb h
        refine gw_getA hx hb hT hown hK hI (ci := 7) rfl i_7 24 (by decide) wd_810 (fun _ h9 => h9) e20 d_M_bases_116 ?_
        refine lv_iconst (v := 1) hx hb d_M_bases_119 (by decide) ?_
        obtain ⟨v21, e22, h⟩ := gb h
        refine gw_aldJ hx hb hK hI e22 d_M_bases_120 ?_
        refine lv_ladd hx hb d_M_bases_121 ?_
        refine lv_lstore_n (lv' := [(1, .long (v17 + v21)), (0, .ref a0)]) hx hb d_M_bases_122 rfl hl (by decide) rfl (fun ls hl => ?_)
        refine lv_aload_n hx hb d_M_bases_123 rfl (lv_at hl 1 rfl) ?_
        obtain ⟨v23, e24, h⟩ := gb h
        refine gw_getA hx hb hT hown hK hI (ci := 7) rfl i_7 22 (by decide) wd_808 (fun _ h9 => h9) e24 d_M_bases_124 ?_
        refine lv_iconst (v := 0) hx hb d_M_bases_127 (by decide) ?_
        obtain ⟨v25, e26, h⟩ := gb h
        refine gw_aldJ hx hb hK hI e26 d_M_bases_128 ?_
        refine lv_aload_n hx hb d_M_bases_129 rfl (lv_at hl 1 rfl) ?_
        obtain ⟨v27, e28, h⟩ := gb h
        refine gw_getA hx hb hT hown hK hI (ci := 7) rfl i_7 22 (by decide) wd_808 (fun _ h9 => h9) e28 d_M_bases_130 ?_
        refine lv_bipush (v := 8) hx hb d_M_bases_133 (by decide) ?_
        obtain ⟨v29, e30, h⟩ := gb h
        refine gw_aldJ hx hb hK hI e30 d_M_bases_135 ?_
        refine lv_lsub hx hb d_M_bases_136 ?_
        refine lv_aload_n hx hb d_M_bases_137 rfl (lv_at hl 1 rfl) ?_
        obtain ⟨v31, e32, h⟩ := gb h
        refine gw_getA hx hb hT hown hK hI (ci := 7) rfl i_7 23 (by decide) wd_809 (fun _ h9 => h9) e32 d_M_bases_138 ?_
        refine lv_iconst (v := 0) hx hb d_M_bases_141 (by decide) ?_
        obtain ⟨v33, e34, h⟩ := gb h
        refine gw_aldJ hx hb hK hI e34 d_M_bases_142 ?_
        refine lv_aload_n hx hb d_M_bases_143 rfl (lv_at hl 1 rfl) ?_
        obtain ⟨v35, e36, h⟩ := gb h
        refine gw_getA hx hb hT hown hK hI (ci := 7) rfl i_7 23 (by decide) wd_809 (fun _ h9 => h9) e36 d_M_bases_144 ?_
        refine lv_bipush (v := 8) hx hb d_M_bases_147 (by decide) ?_
        obtain ⟨v37, e38, h⟩ := gb h
        refine gw_aldJ hx hb hK hI e38 d_M_bases_149 ?_
        refine lv_lsub hx hb d_M_bases_150 ?_
        obtain ⟨u39, e40⟩ := gsome h
        refine gw_callJ e40 h (gw_runS (As := [.long (v25 - v29), .long (v33 - v37)]) (rest := []) hx hb hml hown hT hK hZ hA hI (m_M_square l hst D g0 (v25 - v29) (v33 - v37) w u39 e40) ce_M_square wd_1025 ⟨by decide, by decide⟩ rfl rfl hl.1 rfl (lv_room (Nat.le_of_ble_eq_true rfl)) d_M_bases_151 ⟨(show 0 + 0 ≤ 0 by omega), (show 0 + 0 ≤ 0 by omega)⟩) hI hA hexc (show 0 + 0 ≤ 0 by omega) (show 0 + 0 ≤ 0 by omega) (fun v41 w H locs h hI => ?_)
        refine lv_lload_n hx hb d_M_bases_154 rfl (lv_at hl 0 rfl) ?_
        refine lv_lload_n hx hb d_M_bases_155 rfl (lv_at hl 0 rfl) ?_
        refine lv_lmul hx hb d_M_bases_156 ?_
        refine lv_lsub hx hb d_M_bases_157 ?_
        obtain ⟨u42, e43⟩ := gsome h
        refine gw_callI e43 h (gw_runS (As := [.long (v41 - ((v17 + v21) * (v17 + v21)))]) (rest := []) hx hb hml hown hT hK hZ hA hI (m_M_common l hst D g0 (v41 - ((v17 + v21) * (v17 + v21))) w u42 e43) ce_M_common wd_1028 ⟨by decide, by decide⟩ rfl rfl hl.1 rfl (lv_room (Nat.le_of_ble_eq_true rfl)) d_M_bases_158 ⟨(show 0 + 0 ≤ 0 by omega), (show 0 + 0 ≤ 0 by omega)⟩) hI hA hexc (show 0 + 0 ≤ 0 by omega) (show 0 + 0 ≤ 0 by omega) (fun v44 w H locs h hI => ?_)
        exact W.widen (show 0 ≤ 0 by omega) (show 0 ≤ 0 by omega) (hret _ _ (Option.some.inj h).symm _ _ _ _ d_M_bases_161 hI)
      · skip
        have h := git c14 h
        refine lv_aload_n hx hb d_M_bases_78 rfl (lv_at hl 0 rfl) ?_
        refine lv_iconst (v := 1) hx hb d_M_bases_79 (by decide) ?_
        refine lv_aload_n hx hb d_M_bases_80 rfl (lv_at hl 0 rfl) ?_
        obtain ⟨v45, e46, h⟩ := gb h
        refine gw_getA hx hb hT hown hK hI (ci := 7) rfl i_7 22 (by decide) wd_808 (fun _ h9 => h9) e46 d_M_bases_81 ?_
        refine lv_iconst (v := 0) hx hb d_M_bases_84 (by decide) ?_
        obtain ⟨v47, e48, h⟩ := gb h
        refine gw_aldJ hx hb hK hI e48 d_M_bases_85 ?_
        refine lv_aload_n hx hb d_M_bases_86 rfl (lv_at hl 0 rfl) ?_
        obtain ⟨v49, e50, h⟩ := gb h
        refine gw_getA hx hb hT hown hK hI (ci := 7) rfl i_7 23 (by decide) wd_809 (fun _ h9 => h9) e50 d_M_bases_87 ?_
        refine lv_iconst (v := 0) hx hb d_M_bases_90 (by decide) ?_
        obtain ⟨v51, e52, h⟩ := gb h
        refine gw_aldJ hx hb hK hI e52 d_M_bases_91 ?_
        refine lv_aload_n hx hb d_M_bases_92 rfl (lv_at hl 0 rfl) ?_
        obtain ⟨v53, e54, h⟩ := gb h
        refine gw_getA hx hb hT hown hK hI (ci := 7) rfl i_7 24 (by decide) wd_810 (fun _ h9 => h9) e54 d_M_bases_93 ?_
        refine lv_iconst (v := 0) hx hb d_M_bases_96 (by decide) ?_
        obtain ⟨v55, e56, h⟩ := gb h
        refine gw_aldJ hx hb hK hI e56 d_M_bases_97 ?_
        refine lv_aload_n hx hb d_M_bases_98 rfl (lv_at hl 0 rfl) ?_
        obtain ⟨v57, e58, h⟩ := gb h
        refine gw_getA hx hb hT hown hK hI (ci := 7) rfl i_7 24 (by decide) wd_810 (fun _ h9 => h9) e58 d_M_bases_99 ?_
        refine lv_iconst (v := 0) hx hb d_M_bases_102 (by decide) ?_
        obtain ⟨v59, e60, h⟩ := gb h
        refine gw_aldJ hx hb hK hI e60 d_M_bases_103 ?_
        refine lv_lmul hx hb d_M_bases_104 ?_
        obtain ⟨q63, e64, h⟩ := gb h
        obtain ⟨u61, e62⟩ := gsome h
        refine gw_callI e62 h (gw_runV (As := [.int 1, .long v47, .long v51, .long (v55 * v59)]) (rest := []) hx hb hml hown hT hK hZ hA hI (ci := 7) rfl e64 (m_M_fromPolygon l hst D g0 a0 1 v47 v51 (v55 * v59) w u61 e62) ce_M_fromPolygon wd_1040 wd_39 ⟨by decide, by decide⟩ rfl rfl hl.1 rfl (lv_room (Nat.le_of_ble_eq_true rfl)) d_M_bases_105 ⟨(show 0 + 0 ≤ 0 by omega), (show 0 + 0 ≤ 0 by omega)⟩) hI hA hexc (show 0 + 0 ≤ 0 by omega) (show 0 + 0 ≤ 0 by omega) (fun v65 w H locs h hI => ?_)
        exact W.widen (show 0 ≤ 0 by omega) (show 0 ≤ 0 by omega) (hret _ _ (Option.some.inj h).symm _ _ _ _ d_M_bases_108 hI)
    · skip
      have h := git c9 h
      refine lv_aload_n hx hb d_M_bases_35 rfl (lv_at hl 0 rfl) ?_
      refine lv_iconst (v := 0) hx hb d_M_bases_36 (by decide) ?_
      refine lv_aload_n hx hb d_M_bases_37 rfl (lv_at hl 0 rfl) ?_
      obtain ⟨v66, e67, h⟩ := gb h
      refine gw_getA hx hb hT hown hK hI (ci := 7) rfl i_7 22 (by decide) wd_808 (fun _ h9 => h9) e67 d_M_bases_38 ?_
      refine lv_bipush (v := 8) hx hb d_M_bases_41 (by decide) ?_
      obtain ⟨v68, e69, h⟩ := gb h
      refine gw_aldJ hx hb hK hI e69 d_M_bases_43 ?_
      refine lv_aload_n hx hb d_M_bases_44 rfl (lv_at hl 0 rfl) ?_
      obtain ⟨v70, e71, h⟩ := gb h
      refine gw_getA hx hb hT hown hK hI (ci := 7) rfl i_7 23 (by decide) wd_809 (fun _ h9 => h9) e71 d_M_bases_45 ?_
      refine lv_bipush (v := 8) hx hb d_M_bases_48 (by decide) ?_
      obtain ⟨v72, e73, h⟩ := gb h
      refine gw_aldJ hx hb hK hI e73 d_M_bases_50 ?_
      refine lv_aload_n hx hb d_M_bases_51 rfl (lv_at hl 0 rfl) ?_
      obtain ⟨v74, e75, h⟩ := gb h
      refine gw_getA hx hb hT hown hK hI (ci := 7) rfl i_7 24 (by decide) wd_810 (fun _ h9 => h9) e75 d_M_bases_52 ?_
      refine lv_iconst (v := 1) hx hb d_M_bases_55 (by decide) ?_
      obtain ⟨v76, e77, h⟩ := gb h
      refine gw_aldJ hx hb hK hI e77 d_M_bases_56 ?_
      refine lv_aload_n hx hb d_M_bases_57 rfl (lv_at hl 0 rfl) ?_
      obtain ⟨v78, e79, h⟩ := gb h
      refine gw_getA hx hb hT hown hK hI (ci := 7) rfl i_7 24 (by decide) wd_810 (fun _ h9 => h9) e79 d_M_bases_58 ?_
      refine lv_iconst (v := 1) hx hb d_M_bases_61 (by decide) ?_
      obtain ⟨v80, e81, h⟩ := gb h
      refine gw_aldJ hx hb hK hI e81 d_M_bases_62 ?_
      refine lv_lmul hx hb d_M_bases_63 ?_
      obtain ⟨q84, e85, h⟩ := gb h
      obtain ⟨u82, e83⟩ := gsome h
      refine gw_callI e83 h (gw_runV (As := [.int 0, .long v68, .long v72, .long (v76 * v80)]) (rest := []) hx hb hml hown hT hK hZ hA hI (ci := 7) rfl e85 (m_M_fromPolygon l hst D g0 a0 0 v68 v72 (v76 * v80) w u82 e83) ce_M_fromPolygon wd_1040 wd_39 ⟨by decide, by decide⟩ rfl rfl hl.1 rfl (lv_room (Nat.le_of_ble_eq_true rfl)) d_M_bases_64 ⟨(show 0 + 0 ≤ 0 by omega), (show 0 + 0 ≤ 0 by omega)⟩) hI hA hexc (show 0 + 0 ≤ 0 by omega) (show 0 + 0 ≤ 0 by omega) (fun v86 w H locs h hI => ?_)
      exact W.widen (show 0 ≤ 0 by omega) (show 0 ≤ 0 by omega) (hret _ _ (Option.some.inj h).symm _ _ _ _ d_M_bases_67 hI)
  refine lv_icmp_ne (tgt := 25) hx hb d_M_bases_7 (by decide) (fun c87 => ?_) (fun c87 => ?_)
  · skip
    have h := gie c87 h
    exact hK25 w H locs ls h hI (lv_sub hl [0] rfl)
  · skip
    have h := git c87 h
    refine lv_aload_n hx hb d_M_bases_10 rfl (lv_at hl 0 rfl) ?_
    obtain ⟨v88, e89, h⟩ := gb h
    refine gw_getA hx hb hT hown hK hI (ci := 7) rfl i_7 20 (by decide) wd_806 (fun _ h9 => h9) e89 d_M_bases_11 ?_
    refine lv_iconst (v := 1) hx hb d_M_bases_14 (by decide) ?_
    obtain ⟨v90, e91, h⟩ := gb h
    refine gw_aldI hx hb hK hI e91 d_M_bases_15 ?_
    refine lv_iconst (v := 2) hx hb d_M_bases_16 (by decide) ?_
    refine lv_icmp_ne (tgt := 25) hx hb d_M_bases_17 (by decide) (fun c92 => ?_) (fun c92 => ?_)
    · skip
      have h := gie c92 h
      exact hK25 w H locs ls h hI (lv_sub hl [0] rfl)
    · skip
      have h := git c92 h
      refine lv_aload_n hx hb d_M_bases_20 rfl (lv_at hl 0 rfl) ?_
      obtain ⟨q95, e96, h⟩ := gb h
      obtain ⟨u93, e94⟩ := gsome h
      refine gw_callI e94 h (gw_runV (As := []) (rest := []) hx hb hml hown hT hK hZ hA hI (ci := 7) rfl e96 (m_M_polygons l hst D g0 a0 w u93 e94) ce_M_polygons wd_1059 wd_42 ⟨by decide, by decide⟩ rfl rfl hl.1 rfl (lv_room (Nat.le_of_ble_eq_true rfl)) d_M_bases_21 ⟨(show 0 + 0 ≤ 0 by omega), (show 0 + 0 ≤ 0 by omega)⟩) hI hA hexc (show 0 + 0 ≤ 0 by omega) (show 0 + 0 ≤ 0 by omega) (fun v97 w H locs h hI => ?_)
      exact W.widen (show 0 ≤ 0 by omega) (show 0 ≤ 0 by omega) (hret _ _ (Option.some.inj h).symm _ _ _ _ d_M_bases_24 hI)

abbrev b_M_both : ByteArray := prog_9_method_51_code
def y_M_both : MethodName := ⟨"BodySolidsModel", "both", "()I"⟩
theorem d_M_both_0 : decode b_M_both 0 = .ok (.aload_n 0, 1) := by decide +kernel
theorem d_M_both_1 : decode b_M_both 1 = .ok (.getfield 53, 3) := by decide +kernel
theorem d_M_both_4 : decode b_M_both 4 = .ok (.iconst 0, 1) := by decide +kernel
theorem d_M_both_5 : decode b_M_both 5 = .ok (.iaload, 1) := by decide +kernel
theorem d_M_both_6 : decode b_M_both 6 = .ok (.iconst 3, 1) := by decide +kernel
theorem d_M_both_7 : decode b_M_both 7 = .ok (.if_icmp .ne 18, 3) := by decide +kernel
theorem d_M_both_10 : decode b_M_both 10 = .ok (.aload_n 0, 1) := by decide +kernel
theorem d_M_both_11 : decode b_M_both 11 = .ok (.getfield 53, 3) := by decide +kernel
theorem d_M_both_14 : decode b_M_both 14 = .ok (.iconst 1, 1) := by decide +kernel
theorem d_M_both_15 : decode b_M_both 15 = .ok (.iaload, 1) := by decide +kernel
theorem d_M_both_16 : decode b_M_both 16 = .ok (.iconst 3, 1) := by decide +kernel
theorem d_M_both_17 : decode b_M_both 17 = .ok (.if_icmp .ne 8, 3) := by decide +kernel
theorem d_M_both_20 : decode b_M_both 20 = .ok (.aload_n 0, 1) := by decide +kernel
theorem d_M_both_21 : decode b_M_both 21 = .ok (.invokevirtual 239, 3) := by decide +kernel
theorem d_M_both_24 : decode b_M_both 24 = .ok (.ireturn, 1) := by decide +kernel
theorem d_M_both_25 : decode b_M_both 25 = .ok (.aload_n 0, 1) := by decide +kernel
theorem d_M_both_26 : decode b_M_both 26 = .ok (.getfield 53, 3) := by decide +kernel
theorem d_M_both_29 : decode b_M_both 29 = .ok (.iconst 0, 1) := by decide +kernel
theorem d_M_both_30 : decode b_M_both 30 = .ok (.iaload, 1) := by decide +kernel
theorem d_M_both_31 : decode b_M_both 31 = .ok (.iconst 3, 1) := by decide +kernel
theorem d_M_both_32 : decode b_M_both 32 = .ok (.if_icmp .eq 13, 3) := by decide +kernel
theorem d_M_both_35 : decode b_M_both 35 = .ok (.aload_n 0, 1) := by decide +kernel
theorem d_M_both_36 : decode b_M_both 36 = .ok (.getfield 53, 3) := by decide +kernel
theorem d_M_both_39 : decode b_M_both 39 = .ok (.iconst 1, 1) := by decide +kernel
theorem d_M_both_40 : decode b_M_both 40 = .ok (.iaload, 1) := by decide +kernel
theorem d_M_both_41 : decode b_M_both 41 = .ok (.iconst 3, 1) := by decide +kernel
theorem d_M_both_42 : decode b_M_both 42 = .ok (.if_icmp .ne 82, 3) := by decide +kernel
theorem d_M_both_45 : decode b_M_both 45 = .ok (.aload_n 0, 1) := by decide +kernel
theorem d_M_both_46 : decode b_M_both 46 = .ok (.getfield 53, 3) := by decide +kernel
theorem d_M_both_49 : decode b_M_both 49 = .ok (.iconst 0, 1) := by decide +kernel
theorem d_M_both_50 : decode b_M_both 50 = .ok (.iaload, 1) := by decide +kernel
theorem d_M_both_51 : decode b_M_both 51 = .ok (.iconst 3, 1) := by decide +kernel
theorem d_M_both_52 : decode b_M_both 52 = .ok (.if_icmp .ne 7, 3) := by decide +kernel
theorem d_M_both_55 : decode b_M_both 55 = .ok (.iconst 0, 1) := by decide +kernel
theorem d_M_both_56 : decode b_M_both 56 = .ok (.goto 4, 3) := by decide +kernel
theorem d_M_both_59 : decode b_M_both 59 = .ok (.iconst 1, 1) := by decide +kernel
theorem d_M_both_60 : decode b_M_both 60 = .ok (.istore_n 1, 1) := by decide +kernel
theorem d_M_both_61 : decode b_M_both 61 = .ok (.aload_n 0, 1) := by decide +kernel
theorem d_M_both_62 : decode b_M_both 62 = .ok (.invokevirtual 231, 3) := by decide +kernel
theorem d_M_both_65 : decode b_M_both 65 = .ok (.lstore_n 2, 1) := by decide +kernel
theorem d_M_both_66 : decode b_M_both 66 = .ok (.aload_n 0, 1) := by decide +kernel
theorem d_M_both_67 : decode b_M_both 67 = .ok (.getfield 65, 3) := by decide +kernel
theorem d_M_both_70 : decode b_M_both 70 = .ok (.iload_n 1, 1) := by decide +kernel
theorem d_M_both_71 : decode b_M_both 71 = .ok (.laload, 1) := by decide +kernel
theorem d_M_both_72 : decode b_M_both 72 = .ok (.aload_n 0, 1) := by decide +kernel
theorem d_M_both_73 : decode b_M_both 73 = .ok (.getfield 65, 3) := by decide +kernel
theorem d_M_both_76 : decode b_M_both 76 = .ok (.iload_n 1, 1) := by decide +kernel
theorem d_M_both_77 : decode b_M_both 77 = .ok (.laload, 1) := by decide +kernel
theorem d_M_both_78 : decode b_M_both 78 = .ok (.lmul, 1) := by decide +kernel
theorem d_M_both_79 : decode b_M_both 79 = .ok (.lload_n 2, 1) := by decide +kernel
theorem d_M_both_80 : decode b_M_both 80 = .ok (.lload_n 2, 1) := by decide +kernel
theorem d_M_both_81 : decode b_M_both 81 = .ok (.lmul, 1) := by decide +kernel
theorem d_M_both_82 : decode b_M_both 82 = .ok (.lsub, 1) := by decide +kernel
theorem d_M_both_83 : decode b_M_both 83 = .ok (.lstore 4, 2) := by decide +kernel
theorem d_M_both_85 : decode b_M_both 85 = .ok (.lload 4, 2) := by decide +kernel
theorem d_M_both_87 : decode b_M_both 87 = .ok (.lconst 0, 1) := by decide +kernel
theorem d_M_both_88 : decode b_M_both 88 = .ok (.lcmp, 1) := by decide +kernel
theorem d_M_both_89 : decode b_M_both 89 = .ok (.ifCond .ge 5, 3) := by decide +kernel
theorem d_M_both_92 : decode b_M_both 92 = .ok (.iconst 0, 1) := by decide +kernel
theorem d_M_both_93 : decode b_M_both 93 = .ok (.ireturn, 1) := by decide +kernel
theorem d_M_both_94 : decode b_M_both 94 = .ok (.aload_n 0, 1) := by decide +kernel
theorem d_M_both_95 : decode b_M_both 95 = .ok (.getfield 53, 3) := by decide +kernel
theorem d_M_both_98 : decode b_M_both 98 = .ok (.iconst 1, 1) := by decide +kernel
theorem d_M_both_99 : decode b_M_both 99 = .ok (.iload_n 1, 1) := by decide +kernel
theorem d_M_both_100 : decode b_M_both 100 = .ok (.isub, 1) := by decide +kernel
theorem d_M_both_101 : decode b_M_both 101 = .ok (.iaload, 1) := by decide +kernel
theorem d_M_both_102 : decode b_M_both 102 = .ok (.iconst 1, 1) := by decide +kernel
theorem d_M_both_103 : decode b_M_both 103 = .ok (.if_icmp .ne 13, 3) := by decide +kernel
theorem d_M_both_106 : decode b_M_both 106 = .ok (.aload_n 0, 1) := by decide +kernel
theorem d_M_both_107 : decode b_M_both 107 = .ok (.iload_n 1, 1) := by decide +kernel
theorem d_M_both_108 : decode b_M_both 108 = .ok (.lload 4, 2) := by decide +kernel
theorem d_M_both_110 : decode b_M_both 110 = .ok (.invokevirtual 242, 3) := by decide +kernel
theorem d_M_both_113 : decode b_M_both 113 = .ok (.goto 10, 3) := by decide +kernel
theorem d_M_both_116 : decode b_M_both 116 = .ok (.aload_n 0, 1) := by decide +kernel
theorem d_M_both_117 : decode b_M_both 117 = .ok (.iload_n 1, 1) := by decide +kernel
theorem d_M_both_118 : decode b_M_both 118 = .ok (.lload 4, 2) := by decide +kernel
theorem d_M_both_120 : decode b_M_both 120 = .ok (.invokevirtual 246, 3) := by decide +kernel
theorem d_M_both_123 : decode b_M_both 123 = .ok (.ireturn, 1) := by decide +kernel
theorem d_M_both_124 : decode b_M_both 124 = .ok (.aload_n 0, 1) := by decide +kernel
theorem d_M_both_125 : decode b_M_both 125 = .ok (.getfield 68, 3) := by decide +kernel
theorem d_M_both_128 : decode b_M_both 128 = .ok (.iconst 0, 1) := by decide +kernel
theorem d_M_both_129 : decode b_M_both 129 = .ok (.laload, 1) := by decide +kernel
theorem d_M_both_130 : decode b_M_both 130 = .ok (.aload_n 0, 1) := by decide +kernel
theorem d_M_both_131 : decode b_M_both 131 = .ok (.getfield 68, 3) := by decide +kernel
theorem d_M_both_134 : decode b_M_both 134 = .ok (.iconst 1, 1) := by decide +kernel
theorem d_M_both_135 : decode b_M_both 135 = .ok (.laload, 1) := by decide +kernel
theorem d_M_both_136 : decode b_M_both 136 = .ok (.invokestatic 222, 3) := by decide +kernel
theorem d_M_both_139 : decode b_M_both 139 = .ok (.aload_n 0, 1) := by decide +kernel
theorem d_M_both_140 : decode b_M_both 140 = .ok (.getfield 71, 3) := by decide +kernel
theorem d_M_both_143 : decode b_M_both 143 = .ok (.iconst 0, 1) := by decide +kernel
theorem d_M_both_144 : decode b_M_both 144 = .ok (.laload, 1) := by decide +kernel
theorem d_M_both_145 : decode b_M_both 145 = .ok (.aload_n 0, 1) := by decide +kernel
theorem d_M_both_146 : decode b_M_both 146 = .ok (.getfield 71, 3) := by decide +kernel
theorem d_M_both_149 : decode b_M_both 149 = .ok (.iconst 1, 1) := by decide +kernel
theorem d_M_both_150 : decode b_M_both 150 = .ok (.laload, 1) := by decide +kernel
theorem d_M_both_151 : decode b_M_both 151 = .ok (.invokestatic 219, 3) := by decide +kernel
theorem d_M_both_154 : decode b_M_both 154 = .ok (.lsub, 1) := by decide +kernel
theorem d_M_both_155 : decode b_M_both 155 = .ok (.invokestatic 186, 3) := by decide +kernel
theorem d_M_both_158 : decode b_M_both 158 = .ok (.istore_n 1, 1) := by decide +kernel
theorem d_M_both_159 : decode b_M_both 159 = .ok (.aload_n 0, 1) := by decide +kernel
theorem d_M_both_160 : decode b_M_both 160 = .ok (.invokevirtual 249, 3) := by decide +kernel
theorem d_M_both_163 : decode b_M_both 163 = .ok (.istore_n 2, 1) := by decide +kernel
theorem d_M_both_164 : decode b_M_both 164 = .ok (.iload_n 1, 1) := by decide +kernel
theorem d_M_both_165 : decode b_M_both 165 = .ok (.iload_n 2, 1) := by decide +kernel
theorem d_M_both_166 : decode b_M_both 166 = .ok (.if_icmp .ge 7, 3) := by decide +kernel
theorem d_M_both_169 : decode b_M_both 169 = .ok (.iload_n 1, 1) := by decide +kernel
theorem d_M_both_170 : decode b_M_both 170 = .ok (.goto 4, 3) := by decide +kernel
theorem d_M_both_173 : decode b_M_both 173 = .ok (.iload_n 2, 1) := by decide +kernel
theorem d_M_both_174 : decode b_M_both 174 = .ok (.ireturn, 1) := by decide +kernel
abbrev rm_M_both : Room := { frames := 4, cells := 0, slots := 0, locals := 138 }
theorem ce_M_both : gCe y_M_both (.code y_M_both b_M_both 6 (some .int)) 6 0 false := gCe.code wd_1003 wd_57 wd_1002 (by decide) (by decide +kernel)
def f_M_both (g0 : gG) (a0 : Nat) (w : gW) : gX Int32 := (gfA w a0 7 20).bind fun v1 => (gaI w v1 0).bind fun v3 => gjoin (fun K25 => if v3 = 3 then ((gfA w a0 7 20).bind fun v84 => (gaI w v84 1).bind fun v86 => if v86 = 3 then ((gck w a0 7).bind fun _ => gbind (f_M_tubes g0 a0 w) fun v93 w => some (.inr v93, w)) else (K25 w)) else (K25 w)) (fun (w : gW) => (gfA w a0 7 20).bind fun v5 => (gaI w v5 0).bind fun v7 => gjoin (fun K45 => if v7 = 3 then (K45 w) else ((gfA w a0 7 20).bind fun v46 => (gaI w v46 1).bind fun v48 => if v48 = 3 then (K45 w) else ((gfA w a0 7 25).bind fun v51 => (gaJ w v51 0).bind fun v53 => (gfA w a0 7 25).bind fun v55 => (gaJ w v55 1).bind fun v57 => gbind (f_M_greater g0 v53 v57 w) fun v61 w => (gfA w a0 7 26).bind fun v62 => (gaJ w v62 0).bind fun v64 => (gfA w a0 7 26).bind fun v66 => (gaJ w v66 1).bind fun v68 => gbind (f_M_lesser g0 v64 v68 w) fun v72 w => gbind (f_M_common g0 (v61 - v72) w) fun v75 w => (gck w a0 7).bind fun _ => gbind (f_M_bases g0 a0 w) fun v80 w => gjoin (fun K174 => if v80 ≤ v75 then (K174 v80 w) else (K174 v75 w)) (fun (y81 : Int32) (w : gW) => some (.inr y81, w))))) (fun (w : gW) => (gfA w a0 7 20).bind fun v9 => (gaI w v9 0).bind fun v11 => gjoin (fun K60 => if v11 = 3 then (K60 0 w) else (K60 1 w)) (fun (y13 : Int32) (w : gW) => (gck w a0 7).bind fun _ => gbind (f_M_heightGap g0 a0 w) fun v18 w => (gfA w a0 7 24).bind fun v19 => (gaJ w v19 y13).bind fun v21 => (gfA w a0 7 24).bind fun v23 => (gaJ w v23 y13).bind fun v25 => if 0 ≤ ((v21 * v25) - (v18 * v18)) then ((gfA w a0 7 20).bind fun v28 => (gaI w v28 (1 - y13)).bind fun v30 => gjoin (fun K123 => if v30 = 1 then ((gck w a0 7).bind fun _ => gbind (f_M_coreAndDisc g0 a0 y13 ((v21 * v25) - (v18 * v18)) w) fun v43 w => K123 v43 w) else ((gck w a0 7).bind fun _ => gbind (f_M_coreAndPolygon g0 a0 y13 ((v21 * v25) - (v18 * v18)) w) fun v38 w => K123 v38 w)) (fun (y32 : Int32) (w : gW) => some (.inr y32, w))) else (some (.inr 0, w)))))
set_option maxHeartbeats 4000000 in
set_option maxRecDepth 100000 in
theorem m_M_both (l : Launch) (hst : l.stackTraces = false) (D : gD) (g0 : gG) (a0 : Nat) (w : gW) (r : (String ⊕ Int32) × gW) (h : f_M_both g0 a0 w = some r) : gMet l y_M_both (.code y_M_both b_M_both 6 (some .int)) rm_M_both D g0 [.ref a0] w (goI r) := by
  refine gw_ofI (by decide +kernel) (Nat.le_of_ble_eq_true rfl) ?_
  intro p e s m below meth c ls args A Q hx hb hml hown hlocks hin hnt hT hK hZ hA hret hexc hthr hI hl
  obtain ⟨H, hH⟩ : ∃ H, H = s.heap := ⟨_, rfl⟩
  rw [← hH] at hI ⊢
  obtain ⟨locs, hlocs⟩ : ∃ z : List Loc, z = [] := ⟨_, rfl⟩
  rw [← hlocs] at hI ⊢
  have hl : lv_has ls 6 [(0, .ref a0)] := hl
  unfold f_M_both at h
  refine lv_aload_n hx hb d_M_both_0 rfl (lv_at hl 0 rfl) ?_
  obtain ⟨v1, e2, h⟩ := gb h
  refine gw_getA hx hb hT hown hK hI (ci := 7) rfl i_7 20 (by decide) wd_806 (fun _ h9 => h9) e2 d_M_both_1 ?_
  refine lv_iconst (v := 0) hx hb d_M_both_4 (by decide) ?_
  obtain ⟨v3, e4, h⟩ := gb h
  refine gw_aldI hx hb hK hI e4 d_M_both_5 ?_
  refine lv_iconst (v := 3) hx hb d_M_both_6 (by decide) ?_
  obtain ⟨K25, eK25, h⟩ := gj h
  have hK25 : ∀ (w : gW) (H : Heap) (locs : List Loc) (ls : Array Slot), K25 w = some r → gI D s A w H locs → lv_has ls 6 [(0, .ref a0)] → W p l e rm_M_both s m args below meth c H locs 0 0 Q (F0 m 25 ls []) := by
    intro w H locs ls h hI hl
    have h := gk1 eK25 h
    refine lv_aload_n hx hb d_M_both_25 rfl (lv_at hl 0 rfl) ?_
    obtain ⟨v5, e6, h⟩ := gb h
    refine gw_getA hx hb hT hown hK hI (ci := 7) rfl i_7 20 (by decide) wd_806 (fun _ h9 => h9) e6 d_M_both_26 ?_
    refine lv_iconst (v := 0) hx hb d_M_both_29 (by decide) ?_
    obtain ⟨v7, e8, h⟩ := gb h
    refine gw_aldI hx hb hK hI e8 d_M_both_30 ?_
    refine lv_iconst (v := 3) hx hb d_M_both_31 (by decide) ?_
    obtain ⟨K45, eK45, h⟩ := gj h
    have hK45 : ∀ (w : gW) (H : Heap) (locs : List Loc) (ls : Array Slot), K45 w = some r → gI D s A w H locs → lv_has ls 6 [(0, .ref a0)] → W p l e rm_M_both s m args below meth c H locs 0 0 Q (F0 m 45 ls []) := by
      intro w H locs ls h hI hl
      have h := gk1 eK45 h
      refine lv_aload_n hx hb d_M_both_45 rfl (lv_at hl 0 rfl) ?_
      obtain ⟨v9, e10, h⟩ := gb h
      refine gw_getA hx hb hT hown hK hI (ci := 7) rfl i_7 20 (by decide) wd_806 (fun _ h9 => h9) e10 d_M_both_46 ?_
      refine lv_iconst (v := 0) hx hb d_M_both_49 (by decide) ?_
      obtain ⟨v11, e12, h⟩ := gb h
      refine gw_aldI hx hb hK hI e12 d_M_both_50 ?_
      refine lv_iconst (v := 3) hx hb d_M_both_51 (by decide) ?_
      obtain ⟨K60, eK60, h⟩ := gj h
      have hK60 : ∀ (y13 : Int32) (w : gW) (H : Heap) (locs : List Loc) (ls : Array Slot), K60 y13 w = some r → gI D s A w H locs → lv_has ls 6 [(0, .ref a0)] → W p l e rm_M_both s m args below meth c H locs 0 0 Q (F0 m 60 ls [.int y13]) := by
        intro y13 w H locs ls h hI hl
        have h := gk2 eK60 h
        refine lv_istore_n (lv' := [(1, .int y13), (0, .ref a0)]) hx hb d_M_both_60 rfl hl (by decide) rfl (fun ls hl => ?_)
        refine lv_aload_n hx hb d_M_both_61 rfl (lv_at hl 1 rfl) ?_
        obtain ⟨q16, e17, h⟩ := gb h
        obtain ⟨u14, e15⟩ := gsome h
        refine gw_callJ e15 h (gw_runV (As := []) (rest := []) hx hb hml hown hT hK hZ hA hI (ci := 7) rfl e17 (m_M_heightGap l hst D g0 a0 w u14 e15) ce_M_heightGap wd_1014 wd_35 ⟨by decide, by decide⟩ rfl rfl hl.1 rfl (lv_room (Nat.le_of_ble_eq_true rfl)) d_M_both_62 ⟨(show 0 + 0 ≤ 0 by omega), (show 0 + 0 ≤ 0 by omega)⟩) hI hA hexc (show 0 + 0 ≤ 0 by omega) (show 0 + 0 ≤ 0 by omega) (fun v18 w H locs h hI => ?_)
        refine lv_lstore_n (lv' := [(2, .long v18), (1, .int y13), (0, .ref a0)]) hx hb d_M_both_65 rfl hl (by decide) rfl (fun ls hl => ?_)
        refine lv_aload_n hx hb d_M_both_66 rfl (lv_at hl 2 rfl) ?_
        obtain ⟨v19, e20, h⟩ := gb h
        refine gw_getA hx hb hT hown hK hI (ci := 7) rfl i_7 24 (by decide) wd_810 (fun _ h9 => h9) e20 d_M_both_67 ?_
        refine lv_iload_n hx hb d_M_both_70 rfl (lv_at hl 1 rfl) ?_
        obtain ⟨v21, e22, h⟩ := gb h
        refine gw_aldJ hx hb hK hI e22 d_M_both_71 ?_
        refine lv_aload_n hx hb d_M_both_72 rfl (lv_at hl 2 rfl) ?_
        obtain ⟨v23, e24, h⟩ := gb h
        refine gw_getA hx hb hT hown hK hI (ci := 7) rfl i_7 24 (by decide) wd_810 (fun _ h9 => h9) e24 d_M_both_73 ?_
        refine lv_iload_n hx hb d_M_both_76 rfl (lv_at hl 1 rfl) ?_
        obtain ⟨v25, e26, h⟩ := gb h
        refine gw_aldJ hx hb hK hI e26 d_M_both_77 ?_
        refine lv_lmul hx hb d_M_both_78 ?_
        refine lv_lload_n hx hb d_M_both_79 rfl (lv_at hl 0 rfl) ?_
        refine lv_lload_n hx hb d_M_both_80 rfl (lv_at hl 0 rfl) ?_
        refine lv_lmul hx hb d_M_both_81 ?_
        refine lv_lsub hx hb d_M_both_82 ?_
        refine lv_lstore (lv' := [(4, .long ((v21 * v25) - (v18 * v18))), (2, .long v18), (1, .int y13), (0, .ref a0)]) hx hb d_M_both_83 hl (by decide) rfl (fun ls hl => ?_)
        refine lv_lload hx hb d_M_both_85 (lv_at hl 0 rfl) ?_
        refine lv_lconst (v := 0) hx hb d_M_both_87 (by decide) ?_
        refine W.lcmp hx hb d_M_both_88 ?_
        refine lv_if_ge (tgt := 94) hx hb d_M_both_89 (by decide) (fun c27 => ?_) (fun c27 => ?_)
        · have c27 := (lg_cmp_ge _ _).mp c27
          have h := git c27 h
          refine lv_aload_n hx hb d_M_both_94 rfl (lv_at hl 3 rfl) ?_
          obtain ⟨v28, e29, h⟩ := gb h
          refine gw_getA hx hb hT hown hK hI (ci := 7) rfl i_7 20 (by decide) wd_806 (fun _ h9 => h9) e29 d_M_both_95 ?_
          refine lv_iconst (v := 1) hx hb d_M_both_98 (by decide) ?_
          refine lv_iload_n hx hb d_M_both_99 rfl (lv_at hl 2 rfl) ?_
          refine lv_isub hx hb d_M_both_100 ?_
          obtain ⟨v30, e31, h⟩ := gb h
          refine gw_aldI hx hb hK hI e31 d_M_both_101 ?_
          refine lv_iconst (v := 1) hx hb d_M_both_102 (by decide) ?_
          obtain ⟨K123, eK123, h⟩ := gj h
          have hK123 : ∀ (y32 : Int32) (w : gW) (H : Heap) (locs : List Loc) (ls : Array Slot), K123 y32 w = some r → gI D s A w H locs → lv_has ls 6 [] → W p l e rm_M_both s m args below meth c H locs 0 0 Q (F0 m 123 ls [.int y32]) := by
            intro y32 w H locs ls h hI hl
            have h := gk2 eK123 h
            exact W.widen (show 0 ≤ 0 by omega) (show 0 ≤ 0 by omega) (hret _ _ (Option.some.inj h).symm _ _ _ _ d_M_both_123 hI)
          refine lv_icmp_ne (tgt := 116) hx hb d_M_both_103 (by decide) (fun c33 => ?_) (fun c33 => ?_)
          · skip
            have h := gie c33 h
            refine lv_aload_n hx hb d_M_both_116 rfl (lv_at hl 3 rfl) ?_
            refine lv_iload_n hx hb d_M_both_117 rfl (lv_at hl 2 rfl) ?_
            refine lv_lload hx hb d_M_both_118 (lv_at hl 0 rfl) ?_
            obtain ⟨q36, e37, h⟩ := gb h
            obtain ⟨u34, e35⟩ := gsome h
            refine gw_callI e35 h (gw_runV (As := [.int y13, .long ((v21 * v25) - (v18 * v18))]) (rest := []) hx hb hml hown hT hK hZ hA hI (ci := 7) rfl e37 (m_M_coreAndPolygon l hst D g0 a0 y13 ((v21 * v25) - (v18 * v18)) w u34 e35) ce_M_coreAndPolygon wd_1036 wd_38 ⟨by decide, by decide⟩ rfl rfl hl.1 rfl (lv_room (Nat.le_of_ble_eq_true rfl)) d_M_both_120 ⟨(show 0 + 0 ≤ 0 by omega), (show 0 + 0 ≤ 0 by omega)⟩) hI hA hexc (show 0 + 0 ≤ 0 by omega) (show 0 + 0 ≤ 0 by omega) (fun v38 w H locs h hI => ?_)
            exact hK123 _ w H locs ls h hI (lv_sub hl [] rfl)
          · skip
            have h := git c33 h
            refine lv_aload_n hx hb d_M_both_106 rfl (lv_at hl 3 rfl) ?_
            refine lv_iload_n hx hb d_M_both_107 rfl (lv_at hl 2 rfl) ?_
            refine lv_lload hx hb d_M_both_108 (lv_at hl 0 rfl) ?_
            obtain ⟨q41, e42, h⟩ := gb h
            obtain ⟨u39, e40⟩ := gsome h
            refine gw_callI e40 h (gw_runV (As := [.int y13, .long ((v21 * v25) - (v18 * v18))]) (rest := []) hx hb hml hown hT hK hZ hA hI (ci := 7) rfl e42 (m_M_coreAndDisc l hst D g0 a0 y13 ((v21 * v25) - (v18 * v18)) w u39 e40) ce_M_coreAndDisc wd_1031 wd_37 ⟨by decide, by decide⟩ rfl rfl hl.1 rfl (lv_room (Nat.le_of_ble_eq_true rfl)) d_M_both_110 ⟨(show 0 + 0 ≤ 0 by omega), (show 0 + 0 ≤ 0 by omega)⟩) hI hA hexc (show 0 + 0 ≤ 0 by omega) (show 0 + 0 ≤ 0 by omega) (fun v43 w H locs h hI => ?_)
            refine lv_goto (tgt := 123) hx hb d_M_both_113 (by decide) ?_
            exact hK123 _ w H locs ls h hI (lv_sub hl [] rfl)
        · have c27 := mt (lg_cmp_ge _ _).mpr c27
          have h := gie c27 h
          refine lv_iconst (v := 0) hx hb d_M_both_92 (by decide) ?_
          exact W.widen (show 0 ≤ 0 by omega) (show 0 ≤ 0 by omega) (hret _ _ (Option.some.inj h).symm _ _ _ _ d_M_both_93 hI)
      refine lv_icmp_ne (tgt := 59) hx hb d_M_both_52 (by decide) (fun c44 => ?_) (fun c44 => ?_)
      · skip
        have h := gie c44 h
        refine lv_iconst (v := 1) hx hb d_M_both_59 (by decide) ?_
        exact hK60 _ w H locs ls h hI (lv_sub hl [0] rfl)
      · skip
        have h := git c44 h
        refine lv_iconst (v := 0) hx hb d_M_both_55 (by decide) ?_
        refine lv_goto (tgt := 60) hx hb d_M_both_56 (by decide) ?_
        exact hK60 _ w H locs ls h hI (lv_sub hl [0] rfl)
    refine lv_icmp_eq (tgt := 45) hx hb d_M_both_32 (by decide) (fun c45 => ?_) (fun c45 => ?_)
    · skip
      have h := git c45 h
      exact hK45 w H locs ls h hI (lv_sub hl [0] rfl)
    · skip
      have h := gie c45 h
      refine lv_aload_n hx hb d_M_both_35 rfl (lv_at hl 0 rfl) ?_
      obtain ⟨v46, e47, h⟩ := gb h
      refine gw_getA hx hb hT hown hK hI (ci := 7) rfl i_7 20 (by decide) wd_806 (fun _ h9 => h9) e47 d_M_both_36 ?_
      refine lv_iconst (v := 1) hx hb d_M_both_39 (by decide) ?_
      obtain ⟨v48, e49, h⟩ := gb h
      refine gw_aldI hx hb hK hI e49 d_M_both_40 ?_
      refine lv_iconst (v := 3) hx hb d_M_both_41 (by decide) ?_
      refine lv_icmp_ne (tgt := 124) hx hb d_M_both_42 (by decide) (fun c50 => ?_) (fun c50 => ?_)
      · skip
        have h := gie c50 h
        refine lv_aload_n hx hb d_M_both_124 rfl (lv_at hl 0 rfl) ?_
        obtain ⟨v51, e52, h⟩ := gb h
        refine gw_getA hx hb hT hown hK hI (ci := 7) rfl i_7 25 (by decide) wd_811 (fun _ h9 => h9) e52 d_M_both_125 ?_
        refine lv_iconst (v := 0) hx hb d_M_both_128 (by decide) ?_
        obtain ⟨v53, e54, h⟩ := gb h
        refine gw_aldJ hx hb hK hI e54 d_M_both_129 ?_
        refine lv_aload_n hx hb d_M_both_130 rfl (lv_at hl 0 rfl) ?_
        obtain ⟨v55, e56, h⟩ := gb h
        refine gw_getA hx hb hT hown hK hI (ci := 7) rfl i_7 25 (by decide) wd_811 (fun _ h9 => h9) e56 d_M_both_131 ?_
        refine lv_iconst (v := 1) hx hb d_M_both_134 (by decide) ?_
        obtain ⟨v57, e58, h⟩ := gb h
        refine gw_aldJ hx hb hK hI e58 d_M_both_135 ?_
        obtain ⟨u59, e60⟩ := gsome h
        refine gw_callJ e60 h (gw_runS (As := [.long v53, .long v57]) (rest := []) hx hb hml hown hT hK hZ hA hI (m_M_greater l hst D g0 v53 v57 w u59 e60) ce_M_greater wd_1011 ⟨by decide, by decide⟩ rfl rfl hl.1 rfl (lv_room (Nat.le_of_ble_eq_true rfl)) d_M_both_136 ⟨(show 0 + 0 ≤ 0 by omega), (show 0 + 0 ≤ 0 by omega)⟩) hI hA hexc (show 0 + 0 ≤ 0 by omega) (show 0 + 0 ≤ 0 by omega) (fun v61 w H locs h hI => ?_)
        refine lv_aload_n hx hb d_M_both_139 rfl (lv_at hl 0 rfl) ?_
        obtain ⟨v62, e63, h⟩ := gb h
        refine gw_getA hx hb hT hown hK hI (ci := 7) rfl i_7 26 (by decide) wd_812 (fun _ h9 => h9) e63 d_M_both_140 ?_
        refine lv_iconst (v := 0) hx hb d_M_both_143 (by decide) ?_
        obtain ⟨v64, e65, h⟩ := gb h
        refine gw_aldJ hx hb hK hI e65 d_M_both_144 ?_
        refine lv_aload_n hx hb d_M_both_145 rfl (lv_at hl 0 rfl) ?_
        obtain ⟨v66, e67, h⟩ := gb h
        refine gw_getA hx hb hT hown hK hI (ci := 7) rfl i_7 26 (by decide) wd_812 (fun _ h9 => h9) e67 d_M_both_146 ?_
        refine lv_iconst (v := 1) hx hb d_M_both_149 (by decide) ?_
        obtain ⟨v68, e69, h⟩ := gb h
        refine gw_aldJ hx hb hK hI e69 d_M_both_150 ?_
        obtain ⟨u70, e71⟩ := gsome h
        refine gw_callJ e71 h (gw_runS (As := [.long v64, .long v68]) (rest := [.long v61]) hx hb hml hown hT hK hZ hA hI (m_M_lesser l hst D g0 v64 v68 w u70 e71) ce_M_lesser wd_1008 ⟨by decide, by decide⟩ rfl rfl hl.1 rfl (lv_room (Nat.le_of_ble_eq_true rfl)) d_M_both_151 ⟨(show 0 + 0 ≤ 0 by omega), (show 0 + 0 ≤ 0 by omega)⟩) hI hA hexc (show 0 + 0 ≤ 0 by omega) (show 0 + 0 ≤ 0 by omega) (fun v72 w H locs h hI => ?_)
        refine lv_lsub hx hb d_M_both_154 ?_
        obtain ⟨u73, e74⟩ := gsome h
        refine gw_callI e74 h (gw_runS (As := [.long (v61 - v72)]) (rest := []) hx hb hml hown hT hK hZ hA hI (m_M_common l hst D g0 (v61 - v72) w u73 e74) ce_M_common wd_1028 ⟨by decide, by decide⟩ rfl rfl hl.1 rfl (lv_room (Nat.le_of_ble_eq_true rfl)) d_M_both_155 ⟨(show 0 + 0 ≤ 0 by omega), (show 0 + 0 ≤ 0 by omega)⟩) hI hA hexc (show 0 + 0 ≤ 0 by omega) (show 0 + 0 ≤ 0 by omega) (fun v75 w H locs h hI => ?_)
        refine lv_istore_n (lv' := [(1, .int v75), (0, .ref a0)]) hx hb d_M_both_158 rfl hl (by decide) rfl (fun ls hl => ?_)
        refine lv_aload_n hx hb d_M_both_159 rfl (lv_at hl 1 rfl) ?_
        obtain ⟨q78, e79, h⟩ := gb h
        obtain ⟨u76, e77⟩ := gsome h
        refine gw_callI e77 h (gw_runV (As := []) (rest := []) hx hb hml hown hT hK hZ hA hI (ci := 7) rfl e79 (m_M_bases l hst D g0 a0 w u76 e77) ce_M_bases wd_1055 wd_41 ⟨by decide, by decide⟩ rfl rfl hl.1 rfl (lv_room (Nat.le_of_ble_eq_true rfl)) d_M_both_160 ⟨(show 0 + 0 ≤ 0 by omega), (show 0 + 0 ≤ 0 by omega)⟩) hI hA hexc (show 0 + 0 ≤ 0 by omega) (show 0 + 0 ≤ 0 by omega) (fun v80 w H locs h hI => ?_)
        refine lv_istore_n (lv' := [(2, .int v80), (1, .int v75), (0, .ref a0)]) hx hb d_M_both_163 rfl hl (by decide) rfl (fun ls hl => ?_)
        refine lv_iload_n hx hb d_M_both_164 rfl (lv_at hl 1 rfl) ?_
        refine lv_iload_n hx hb d_M_both_165 rfl (lv_at hl 0 rfl) ?_
        obtain ⟨K174, eK174, h⟩ := gj h
        have hK174 : ∀ (y81 : Int32) (w : gW) (H : Heap) (locs : List Loc) (ls : Array Slot), K174 y81 w = some r → gI D s A w H locs → lv_has ls 6 [] → W p l e rm_M_both s m args below meth c H locs 0 0 Q (F0 m 174 ls [.int y81]) := by
          intro y81 w H locs ls h hI hl
          have h := gk2 eK174 h
          exact W.widen (show 0 ≤ 0 by omega) (show 0 ≤ 0 by omega) (hret _ _ (Option.some.inj h).symm _ _ _ _ d_M_both_174 hI)
        refine lv_icmp_ge (tgt := 173) hx hb d_M_both_166 (by decide) (fun c82 => ?_) (fun c82 => ?_)
        · skip
          have h := git c82 h
          refine lv_iload_n hx hb d_M_both_173 rfl (lv_at hl 0 rfl) ?_
          exact hK174 _ w H locs ls h hI (lv_sub hl [] rfl)
        · skip
          have h := gie c82 h
          refine lv_iload_n hx hb d_M_both_169 rfl (lv_at hl 1 rfl) ?_
          refine lv_goto (tgt := 174) hx hb d_M_both_170 (by decide) ?_
          exact hK174 _ w H locs ls h hI (lv_sub hl [] rfl)
      · skip
        have h := git c50 h
        exact hK45 w H locs ls h hI (lv_sub hl [0] rfl)
  refine lv_icmp_ne (tgt := 25) hx hb d_M_both_7 (by decide) (fun c83 => ?_) (fun c83 => ?_)
  · skip
    have h := gie c83 h
    exact hK25 w H locs ls h hI (lv_sub hl [0] rfl)
  · skip
    have h := git c83 h
    refine lv_aload_n hx hb d_M_both_10 rfl (lv_at hl 0 rfl) ?_
    obtain ⟨v84, e85, h⟩ := gb h
    refine gw_getA hx hb hT hown hK hI (ci := 7) rfl i_7 20 (by decide) wd_806 (fun _ h9 => h9) e85 d_M_both_11 ?_
    refine lv_iconst (v := 1) hx hb d_M_both_14 (by decide) ?_
    obtain ⟨v86, e87, h⟩ := gb h
    refine gw_aldI hx hb hK hI e87 d_M_both_15 ?_
    refine lv_iconst (v := 3) hx hb d_M_both_16 (by decide) ?_
    refine lv_icmp_ne (tgt := 25) hx hb d_M_both_17 (by decide) (fun c88 => ?_) (fun c88 => ?_)
    · skip
      have h := gie c88 h
      exact hK25 w H locs ls h hI (lv_sub hl [0] rfl)
    · skip
      have h := git c88 h
      refine lv_aload_n hx hb d_M_both_20 rfl (lv_at hl 0 rfl) ?_
      obtain ⟨q91, e92, h⟩ := gb h
      obtain ⟨u89, e90⟩ := gsome h
      refine gw_callI e90 h (gw_runV (As := []) (rest := []) hx hb hml hown hT hK hZ hA hI (ci := 7) rfl e92 (m_M_tubes l hst D g0 a0 w u89 e90) ce_M_tubes wd_1004 wd_34 ⟨by decide, by decide⟩ rfl rfl hl.1 rfl (lv_room (Nat.le_of_ble_eq_true rfl)) d_M_both_21 ⟨(show 0 + 0 ≤ 0 by omega), (show 0 + 0 ≤ 0 by omega)⟩) hI hA hexc (show 0 + 0 ≤ 0 by omega) (show 0 + 0 ≤ 0 by omega) (fun v93 w H locs h hI => ?_)
      exact W.widen (show 0 ≤ 0 by omega) (show 0 ≤ 0 by omega) (hret _ _ (Option.some.inj h).symm _ _ _ _ d_M_both_24 hI)
